set_option maxRecDepth 20000 in
theorem gX9_joinWays_X9_between : GoodIn wsX9_joinWays (wsV RX9 31 RX9 yX9_between wsX9_between) := goodIn_app (goodIn_of _ (by decide +kernel)) ggX9_joinWays_X9_between
set_option maxRecDepth 20000 in
theorem ggX9_joinWays_X9_link : GoodIn wsX9_joinWays wsX9_link := goodIn_r _ [16, 6, 1, 2, 3, 4, 5, 7, 8, 9, 10, 11, 12, 17, 18, 19, 20, 21, 22] (by decide +kernel) (by decide +kernel)
set_option maxRecDepth 20000 in
theorem gX9_joinWays_X9_link : GoodIn wsX9_joinWays (wsV RX9 35 RX9 yX9_link wsX9_link) := goodIn_app (goodIn_of _ (by decide +kernel)) ggX9_joinWays_X9_link
theorem dX9_joinWays_0 : decode cX9_joinWays 0 = .ok (.iconst 0, 1) := by decide +kernel
theorem dX9_joinWays_1 : decode cX9_joinWays 1 = .ok (.istore_n 1, 1) := by decide +kernel
theorem dX9_joinWays_2 : decode cX9_joinWays 2 = .ok (.iload_n 1, 1) := by decide +kernel
theorem dX9_joinWays_3 : decode cX9_joinWays 3 = .ok (.bipush 7, 2) := by decide +kernel
theorem dX9_joinWays_5 : decode cX9_joinWays 5 = .ok (.if_icmp .ge 77, 3) := by decide +kernel
theorem dX9_joinWays_8 : decode cX9_joinWays 8 = .ok (.iconst 0, 1) := by decide +kernel
theorem dX9_joinWays_9 : decode cX9_joinWays 9 = .ok (.istore_n 2, 1) := by decide +kernel
theorem dX9_joinWays_10 : decode cX9_joinWays 10 = .ok (.iload_n 2, 1) := by decide +kernel
theorem dX9_joinWays_11 : decode cX9_joinWays 11 = .ok (.bipush 7, 2) := by decide +kernel
theorem dX9_joinWays_13 : decode cX9_joinWays 13 = .ok (.if_icmp .ge 63, 3) := by decide +kernel
theorem dX9_joinWays_16 : decode cX9_joinWays 16 = .ok (.aload_n 0, 1) := by decide +kernel
theorem dX9_joinWays_17 : decode cX9_joinWays 17 = .ok (.iload_n 2, 1) := by decide +kernel
theorem dX9_joinWays_18 : decode cX9_joinWays 18 = .ok (.iload_n 1, 1) := by decide +kernel
theorem dX9_joinWays_19 : decode cX9_joinWays 19 = .ok (.invokevirtual 31, 3) := by decide +kernel
theorem dX9_joinWays_22 : decode cX9_joinWays 22 = .ok (.istore_n 3, 1) := by decide +kernel
theorem dX9_joinWays_23 : decode cX9_joinWays 23 = .ok (.iconst 0, 1) := by decide +kernel
theorem dX9_joinWays_24 : decode cX9_joinWays 24 = .ok (.istore 4, 2) := by decide +kernel
theorem dX9_joinWays_26 : decode cX9_joinWays 26 = .ok (.iload 4, 2) := by decide +kernel
theorem dX9_joinWays_28 : decode cX9_joinWays 28 = .ok (.bipush 7, 2) := by decide +kernel
theorem dX9_joinWays_30 : decode cX9_joinWays 30 = .ok (.if_icmp .ge 40, 3) := by decide +kernel
theorem dX9_joinWays_33 : decode cX9_joinWays 33 = .ok (.iload_n 3, 1) := by decide +kernel
theorem dX9_joinWays_34 : decode cX9_joinWays 34 = .ok (.iconst (-1), 1) := by decide +kernel
theorem dX9_joinWays_35 : decode cX9_joinWays 35 = .ok (.if_icmp .eq 35, 3) := by decide +kernel
theorem dX9_joinWays_38 : decode cX9_joinWays 38 = .ok (.aload_n 0, 1) := by decide +kernel
theorem dX9_joinWays_39 : decode cX9_joinWays 39 = .ok (.iload_n 1, 1) := by decide +kernel
theorem dX9_joinWays_40 : decode cX9_joinWays 40 = .ok (.iload 4, 2) := by decide +kernel
theorem dX9_joinWays_42 : decode cX9_joinWays 42 = .ok (.invokevirtual 31, 3) := by decide +kernel
theorem dX9_joinWays_45 : decode cX9_joinWays 45 = .ok (.istore 5, 2) := by decide +kernel
theorem dX9_joinWays_47 : decode cX9_joinWays 47 = .ok (.iload 5, 2) := by decide +kernel
theorem dX9_joinWays_49 : decode cX9_joinWays 49 = .ok (.iconst (-1), 1) := by decide +kernel
theorem dX9_joinWays_50 : decode cX9_joinWays 50 = .ok (.if_icmp .eq 14, 3) := by decide +kernel
theorem dX9_joinWays_53 : decode cX9_joinWays 53 = .ok (.aload_n 0, 1) := by decide +kernel
theorem dX9_joinWays_54 : decode cX9_joinWays 54 = .ok (.iload_n 2, 1) := by decide +kernel
theorem dX9_joinWays_55 : decode cX9_joinWays 55 = .ok (.iload 4, 2) := by decide +kernel
theorem dX9_joinWays_57 : decode cX9_joinWays 57 = .ok (.iload_n 3, 1) := by decide +kernel
theorem dX9_joinWays_58 : decode cX9_joinWays 58 = .ok (.iload 5, 2) := by decide +kernel
theorem dX9_joinWays_60 : decode cX9_joinWays 60 = .ok (.iadd, 1) := by decide +kernel
theorem dX9_joinWays_61 : decode cX9_joinWays 61 = .ok (.invokevirtual 35, 3) := by decide +kernel
theorem dX9_joinWays_64 : decode cX9_joinWays 64 = .ok (.iinc 4 1, 3) := by decide +kernel
theorem dX9_joinWays_67 : decode cX9_joinWays 67 = .ok (.goto (-41), 3) := by decide +kernel
theorem dX9_joinWays_70 : decode cX9_joinWays 70 = .ok (.iinc 2 1, 3) := by decide +kernel
theorem dX9_joinWays_73 : decode cX9_joinWays 73 = .ok (.goto (-63), 3) := by decide +kernel
theorem dX9_joinWays_76 : decode cX9_joinWays 76 = .ok (.iinc 1 1, 3) := by decide +kernel
theorem dX9_joinWays_79 : decode cX9_joinWays 79 = .ok (.goto (-77), 3) := by decide +kernel
theorem dX9_joinWays_82 : decode cX9_joinWays 82 = .ok (.return_, 1) := by decide +kernel
set_option maxRecDepth 20000 in
theorem ggX10_init_X4_init : GoodIn wsX10_init wsX4_init := goodIn_r _ [41, 42, 2, 3, 43, 44, 45, 46, 47, 48, 49, 50, 51, 52, 53, 54, 55, 56, 57, 58, 59, 152, 108, 109, 110, 153, 154, 155, 156] (by decide +kernel) (by decide +kernel)
set_option maxRecDepth 20000 in
theorem gX10_init_X4_init_n9 : GoodIn wsX10_init (wsX4_init) := ggX10_init_X4_init
set_option maxRecDepth 20000 in
theorem ggX10_init_X5_init : GoodIn wsX10_init wsX5_init := goodIn_r _ [61, 62, 2, 3, 63, 44, 45, 64, 65, 66, 67, 68, 52, 53, 54, 55, 56, 152, 126, 127, 128, 129, 130, 131, 132] (by decide +kernel) (by decide +kernel)
set_option maxRecDepth 20000 in
theorem gX10_init_X5_init_n18 : GoodIn wsX10_init (wsX5_init) := ggX10_init_X5_init
set_option maxRecDepth 20000 in
theorem ggX10_init_X0_init : GoodIn wsX10_init wsX0_init := goodIn_r _ [70, 71, 2, 3, 72, 44, 45, 73, 74, 75, 76, 52, 53, 54, 55, 56, 152, 133, 134, 135, 136] (by decide +kernel) (by decide +kernel)
set_option maxRecDepth 20000 in
theorem gX10_init_X0_init_n25 : GoodIn wsX10_init (wsX0_init) := ggX10_init_X0_init
set_option maxRecDepth 20000 in
theorem ggX10_init_X9_init : GoodIn wsX10_init wsX9_init := goodIn_r _ [78, 79, 2, 3, 80, 44, 45, 81, 82, 52, 53, 54, 55, 56, 152, 137] (by decide +kernel) (by decide +kernel)
set_option maxRecDepth 20000 in
theorem gX10_init_X9_init_n35 : GoodIn wsX10_init (wsX9_init) := ggX10_init_X9_init
set_option maxRecDepth 20000 in
theorem ggX10_init_X1_init : GoodIn wsX10_init wsX1_init := goodIn_r _ [84, 85, 2, 3, 86, 44, 45, 87, 88, 52, 53, 54, 55, 56, 152, 138, 139] (by decide +kernel) (by decide +kernel)
set_option maxRecDepth 20000 in
theorem gX10_init_X1_init_n42 : GoodIn wsX10_init (wsX1_init) := ggX10_init_X1_init
set_option maxRecDepth 20000 in
theorem ggX10_init_X3_init : GoodIn wsX10_init wsX3_init := goodIn_r _ [90, 91, 2, 3, 92, 44, 45, 93, 94, 95, 52, 53, 54, 55, 56, 152, 140, 141, 142, 143, 144, 145] (by decide +kernel) (by decide +kernel)
set_option maxRecDepth 20000 in
theorem gX10_init_X3_init_n49 : GoodIn wsX10_init (wsX3_init) := ggX10_init_X3_init
set_option maxRecDepth 20000 in
theorem ggX10_init_X2_init : GoodIn wsX10_init wsX2_init := goodIn_r _ [97, 98, 2, 3] (by decide +kernel) (by decide +kernel)
set_option maxRecDepth 20000 in
theorem gX10_init_X2_init_n62 : GoodIn wsX10_init (wsX2_init) := ggX10_init_X2_init
set_option maxRecDepth 20000 in
theorem ggX10_init_X7_init : GoodIn wsX10_init wsX7_init := goodIn_r _ [100, 101, 2, 3, 102, 44, 45, 103, 104, 105, 18, 19, 106, 107, 52, 53, 54, 55, 56, 77, 78, 79, 80, 81, 82, 152, 147, 148, 149, 150, 151, 137] (by decide +kernel) (by decide +kernel)
set_option maxRecDepth 20000 in
theorem gX10_init_X7_init_n69 : GoodIn wsX10_init (wsX7_init) := ggX10_init_X7_init
theorem dX10_init_0 : decode cX10_init 0 = .ok (.aload_n 0, 1) := by decide +kernel
theorem dX10_init_1 : decode cX10_init 1 = .ok (.invokespecial 1, 3) := by decide +kernel
theorem dX10_init_4 : decode cX10_init 4 = .ok (.aload_n 0, 1) := by decide +kernel
theorem dX10_init_5 : decode cX10_init 5 = .ok (.new 7, 3) := by decide +kernel
theorem dX10_init_8 : decode cX10_init 8 = .ok (.dup, 1) := by decide +kernel
theorem dX10_init_9 : decode cX10_init 9 = .ok (.invokespecial 9, 3) := by decide +kernel
theorem dX10_init_12 : decode cX10_init 12 = .ok (.putfield 10, 3) := by decide +kernel
theorem dX10_init_15 : decode cX10_init 15 = .ok (.aload_n 0, 1) := by decide +kernel
theorem dX10_init_16 : decode cX10_init 16 = .ok (.new 16, 3) := by decide +kernel
theorem dX10_init_19 : decode cX10_init 19 = .ok (.dup, 1) := by decide +kernel
theorem dX10_init_20 : decode cX10_init 20 = .ok (.invokespecial 18, 3) := by decide +kernel
theorem dX10_init_23 : decode cX10_init 23 = .ok (.putfield 19, 3) := by decide +kernel
theorem dX10_init_26 : decode cX10_init 26 = .ok (.aload_n 0, 1) := by decide +kernel
theorem dX10_init_27 : decode cX10_init 27 = .ok (.new 23, 3) := by decide +kernel
theorem dX10_init_30 : decode cX10_init 30 = .ok (.dup, 1) := by decide +kernel
theorem dX10_init_31 : decode cX10_init 31 = .ok (.invokespecial 25, 3) := by decide +kernel
theorem dX10_init_34 : decode cX10_init 34 = .ok (.putfield 26, 3) := by decide +kernel
theorem dX10_init_37 : decode cX10_init 37 = .ok (.aload_n 0, 1) := by decide +kernel
theorem dX10_init_38 : decode cX10_init 38 = .ok (.new 23, 3) := by decide +kernel
theorem dX10_init_41 : decode cX10_init 41 = .ok (.dup, 1) := by decide +kernel
theorem dX10_init_42 : decode cX10_init 42 = .ok (.invokespecial 25, 3) := by decide +kernel
theorem dX10_init_45 : decode cX10_init 45 = .ok (.putfield 30, 3) := by decide +kernel
theorem dX10_init_48 : decode cX10_init 48 = .ok (.aload_n 0, 1) := by decide +kernel
theorem dX10_init_49 : decode cX10_init 49 = .ok (.new 33, 3) := by decide +kernel
theorem dX10_init_52 : decode cX10_init 52 = .ok (.dup, 1) := by decide +kernel
theorem dX10_init_53 : decode cX10_init 53 = .ok (.invokespecial 35, 3) := by decide +kernel
theorem dX10_init_56 : decode cX10_init 56 = .ok (.putfield 36, 3) := by decide +kernel
theorem dX10_init_59 : decode cX10_init 59 = .ok (.aload_n 0, 1) := by decide +kernel
theorem dX10_init_60 : decode cX10_init 60 = .ok (.new 40, 3) := by decide +kernel
theorem dX10_init_63 : decode cX10_init 63 = .ok (.dup, 1) := by decide +kernel
theorem dX10_init_64 : decode cX10_init 64 = .ok (.invokespecial 42, 3) := by decide +kernel
theorem dX10_init_67 : decode cX10_init 67 = .ok (.putfield 43, 3) := by decide +kernel
theorem dX10_init_70 : decode cX10_init 70 = .ok (.aload_n 0, 1) := by decide +kernel
theorem dX10_init_71 : decode cX10_init 71 = .ok (.new 47, 3) := by decide +kernel
theorem dX10_init_74 : decode cX10_init 74 = .ok (.dup, 1) := by decide +kernel
theorem dX10_init_75 : decode cX10_init 75 = .ok (.invokespecial 49, 3) := by decide +kernel
theorem dX10_init_78 : decode cX10_init 78 = .ok (.putfield 50, 3) := by decide +kernel
theorem dX10_init_81 : decode cX10_init 81 = .ok (.aload_n 0, 1) := by decide +kernel
theorem dX10_init_82 : decode cX10_init 82 = .ok (.new 47, 3) := by decide +kernel
theorem dX10_init_85 : decode cX10_init 85 = .ok (.dup, 1) := by decide +kernel
theorem dX10_init_86 : decode cX10_init 86 = .ok (.invokespecial 49, 3) := by decide +kernel
theorem dX10_init_89 : decode cX10_init 89 = .ok (.putfield 54, 3) := by decide +kernel
theorem dX10_init_92 : decode cX10_init 92 = .ok (.aload_n 0, 1) := by decide +kernel
theorem dX10_init_93 : decode cX10_init 93 = .ok (.new 47, 3) := by decide +kernel
theorem dX10_init_96 : decode cX10_init 96 = .ok (.dup, 1) := by decide +kernel
theorem dX10_init_97 : decode cX10_init 97 = .ok (.invokespecial 49, 3) := by decide +kernel
theorem dX10_init_100 : decode cX10_init 100 = .ok (.putfield 57, 3) := by decide +kernel
theorem dX10_init_103 : decode cX10_init 103 = .ok (.aload_n 0, 1) := by decide +kernel
theorem dX10_init_104 : decode cX10_init 104 = .ok (.new 60, 3) := by decide +kernel
theorem dX10_init_107 : decode cX10_init 107 = .ok (.dup, 1) := by decide +kernel
theorem dX10_init_108 : decode cX10_init 108 = .ok (.invokespecial 62, 3) := by decide +kernel
theorem dX10_init_111 : decode cX10_init 111 = .ok (.putfield 63, 3) := by decide +kernel
theorem dX10_init_114 : decode cX10_init 114 = .ok (.aload_n 0, 1) := by decide +kernel
theorem dX10_init_115 : decode cX10_init 115 = .ok (.new 67, 3) := by decide +kernel
theorem dX10_init_118 : decode cX10_init 118 = .ok (.dup, 1) := by decide +kernel
theorem dX10_init_119 : decode cX10_init 119 = .ok (.invokespecial 69, 3) := by decide +kernel
theorem dX10_init_122 : decode cX10_init 122 = .ok (.putfield 70, 3) := by decide +kernel
theorem dX10_init_125 : decode cX10_init 125 = .ok (.aload_n 0, 1) := by decide +kernel
theorem dX10_init_126 : decode cX10_init 126 = .ok (.iconst (-1), 1) := by decide +kernel
theorem dX10_init_127 : decode cX10_init 127 = .ok (.putfield 74, 3) := by decide +kernel
theorem dX10_init_130 : decode cX10_init 130 = .ok (.return_, 1) := by decide +kernel
set_option maxRecDepth 20000 in
theorem ggX10_letters_X4_lettersIn : GoodIn wsX10_letters wsX4_lettersIn := goodIn_r _ [6, 7, 8, 5, 9, 10] (by decide +kernel) (by decide +kernel)
set_option maxRecDepth 20000 in
theorem gX10_letters_X4_lettersIn : GoodIn wsX10_letters (va_wsS RX10 78 yX4_lettersIn wsX4_lettersIn) := goodIn_app (goodIn_of _ (by decide +kernel)) ggX10_letters_X4_lettersIn
set_option maxRecDepth 20000 in
theorem ggX10_letters_X4_append : GoodIn wsX10_letters wsX4_append := goodIn_r _ [14, 15, 16, 7, 8, 5, 9, 10, 17, 18, 19, 20, 21, 22, 38, 39, 40, 41] (by decide +kernel) (by decide +kernel)
set_option maxRecDepth 20000 in
theorem gX10_letters_X4_append : GoodIn wsX10_letters (wsV RX10 85 RX4 yX4_append wsX4_append) := goodIn_app (goodIn_of _ (by decide +kernel)) ggX10_letters_X4_append
theorem dX10_letters_0 : decode cX10_letters 0 = .ok (.lload_n 1, 1) := by decide +kernel
theorem dX10_letters_1 : decode cX10_letters 1 = .ok (.invokestatic 78, 3) := by decide +kernel
theorem dX10_letters_4 : decode cX10_letters 4 = .ok (.istore_n 3, 1) := by decide +kernel
theorem dX10_letters_5 : decode cX10_letters 5 = .ok (.iload_n 3, 1) := by decide +kernel
theorem dX10_letters_6 : decode cX10_letters 6 = .ok (.iconst (-1), 1) := by decide +kernel
theorem dX10_letters_7 : decode cX10_letters 7 = .ok (.if_icmp .ne 6, 3) := by decide +kernel
theorem dX10_letters_10 : decode cX10_letters 10 = .ok (.bipush (-102), 2) := by decide +kernel
theorem dX10_letters_12 : decode cX10_letters 12 = .ok (.ireturn, 1) := by decide +kernel
theorem dX10_letters_13 : decode cX10_letters 13 = .ok (.aload_n 0, 1) := by decide +kernel
theorem dX10_letters_14 : decode cX10_letters 14 = .ok (.getfield 10, 3) := by decide +kernel
theorem dX10_letters_17 : decode cX10_letters 17 = .ok (.getfield 82, 3) := by decide +kernel
theorem dX10_letters_20 : decode cX10_letters 20 = .ok (.iload_n 3, 1) := by decide +kernel
theorem dX10_letters_21 : decode cX10_letters 21 = .ok (.iadd, 1) := by decide +kernel
theorem dX10_letters_22 : decode cX10_letters 22 = .ok (.bipush 66, 2) := by decide +kernel
theorem dX10_letters_24 : decode cX10_letters 24 = .ok (.if_icmp .le 6, 3) := by decide +kernel
theorem dX10_letters_27 : decode cX10_letters 27 = .ok (.bipush (-104), 2) := by decide +kernel
theorem dX10_letters_29 : decode cX10_letters 29 = .ok (.ireturn, 1) := by decide +kernel
theorem dX10_letters_30 : decode cX10_letters 30 = .ok (.aload_n 0, 1) := by decide +kernel
theorem dX10_letters_31 : decode cX10_letters 31 = .ok (.getfield 10, 3) := by decide +kernel
theorem dX10_letters_34 : decode cX10_letters 34 = .ok (.lload_n 1, 1) := by decide +kernel
theorem dX10_letters_35 : decode cX10_letters 35 = .ok (.iload_n 3, 1) := by decide +kernel
theorem dX10_letters_36 : decode cX10_letters 36 = .ok (.invokevirtual 85, 3) := by decide +kernel
theorem dX10_letters_39 : decode cX10_letters 39 = .ok (.aload_n 0, 1) := by decide +kernel
theorem dX10_letters_40 : decode cX10_letters 40 = .ok (.getfield 10, 3) := by decide +kernel
theorem dX10_letters_43 : decode cX10_letters 43 = .ok (.getfield 82, 3) := by decide +kernel
theorem dX10_letters_46 : decode cX10_letters 46 = .ok (.ireturn, 1) := by decide +kernel
set_option maxRecDepth 20000 in
theorem ggX10_fault_X4_firstFault : GoodIn wsX10_fault wsX4_firstFault := goodIn_r _ [6, 7, 8, 9, 10, 11, 12, 13, 14, 15, 16, 17, 18, 19, 20, 21, 22, 23, 24, 25, 26, 27, 28, 29, 30, 31, 32, 33, 34, 35, 36, 37, 38, 39, 40, 41, 57, 58, 59, 60, 61, 62, 63, 64] (by decide +kernel) (by decide +kernel)
set_option maxRecDepth 20000 in
theorem gX10_fault_X4_firstFault : GoodIn wsX10_fault (wsV RX10 89 RX4 yX4_firstFault wsX4_firstFault) := goodIn_app (goodIn_of _ (by decide +kernel)) ggX10_fault_X4_firstFault
theorem dX10_fault_0 : decode cX10_fault 0 = .ok (.aload_n 0, 1) := by decide +kernel
theorem dX10_fault_1 : decode cX10_fault 1 = .ok (.getfield 10, 3) := by decide +kernel
theorem dX10_fault_4 : decode cX10_fault 4 = .ok (.invokevirtual 89, 3) := by decide +kernel
theorem dX10_fault_7 : decode cX10_fault 7 = .ok (.ireturn, 1) := by decide +kernel
set_option maxRecDepth 20000 in
theorem ggX10_mine_X4_isMine : GoodIn wsX10_mine wsX4_isMine := goodIn_r _ [13, 14, 15, 16, 17, 18, 12, 19, 20, 21, 22, 23, 24, 25, 26, 27, 28, 29, 30, 31, 32, 33, 34, 35, 36, 37, 38, 39, 40, 41, 42, 43, 44, 45, 46, 47, 48, 49, 50, 51, 52, 53, 54, 55, 56, 57, 58, 59, 60, 61, 62, 63, 203, 204, 205, 215, 216, 217, 218, 219] (by decide +kernel) (by decide +kernel)
set_option maxRecDepth 20000 in
theorem gX10_mine_X4_isMine : GoodIn wsX10_mine (wsV RX10 93 RX4 yX4_isMine wsX4_isMine) := goodIn_app (goodIn_of _ (by decide +kernel)) ggX10_mine_X4_isMine
set_option maxRecDepth 20000 in
theorem ggX10_mine_X5_readFrom : GoodIn wsX10_mine wsX5_readFrom := goodIn_r _ [68, 69, 70, 71, 72, 73, 74, 75, 30, 31, 32, 33, 34, 76, 77, 78, 12, 79, 20, 29, 80, 81, 82, 83, 84, 85, 86, 67, 87, 88, 89, 90, 91, 92, 93, 94, 208, 209, 210, 211, 212, 213, 214, 203, 204, 205, 219] (by decide +kernel) (by decide +kernel)
set_option maxRecDepth 20000 in
theorem gX10_mine_X5_readFrom : GoodIn wsX10_mine (wsV RX10 97 RX5 yX5_readFrom wsX5_readFrom) := goodIn_app (goodIn_of _ (by decide +kernel)) ggX10_mine_X5_readFrom
set_option maxRecDepth 20000 in
theorem ggX10_mine_X5_allGalleries : GoodIn wsX10_mine wsX5_allGalleries := goodIn_r _ [98, 69, 208, 209, 210, 211, 212, 213, 214] (by decide +kernel) (by decide +kernel)
set_option maxRecDepth 20000 in
theorem gX10_mine_X5_allGalleries : GoodIn wsX10_mine (wsV RX10 104 RX5 yX5_allGalleries wsX5_allGalleries) := goodIn_app (goodIn_of _ (by decide +kernel)) ggX10_mine_X5_allGalleries
set_option maxRecDepth 20000 in
theorem ggX10_mine_X3_begin : GoodIn wsX10_mine wsX3_begin := goodIn_r _ [103, 104, 105, 106, 107, 108, 109, 92, 93, 32, 94, 34, 220, 221, 222, 223, 224, 225, 219] (by decide +kernel) (by decide +kernel)
set_option maxRecDepth 20000 in
theorem gX10_mine_X3_begin : GoodIn wsX10_mine (wsV RX10 107 RX3 yX3_begin wsX3_begin) := goodIn_app (goodIn_of _ (by decide +kernel)) ggX10_mine_X3_begin
set_option maxRecDepth 20000 in
theorem ggX10_mine_X10_windChanges : GoodIn wsX10_mine wsX10_windChanges := goodIn_r _ [113, 114, 2, 6, 115, 116, 117, 118, 119, 120, 121, 122, 123, 124, 125, 126, 127, 128, 129, 130, 131, 132, 133, 81, 82, 32, 83, 34, 51, 41, 52, 134, 30, 31, 33, 135, 136, 137, 138, 139, 140, 141, 142, 58, 59, 60, 61, 62, 63, 143, 144, 145, 67, 146, 88, 75, 147, 148, 149, 150, 151, 152, 153, 154, 155, 156, 157, 158, 159, 160, 161, 162, 163, 164, 165, 166, 167, 168, 92, 93, 94, 169, 170, 171, 172, 173, 72, 73, 174, 175, 176, 177, 178, 179, 180, 181, 182, 183, 184, 185, 186, 187, 188, 189, 190, 191, 192, 193, 194, 195, 196, 197, 198, 199, 200, 201, 202, 220, 221, 222, 223, 224, 225, 226, 227, 228, 229, 208, 209, 210, 211, 212, 213, 214, 219, 230] (by decide +kernel) (by decide +kernel)
set_option maxRecDepth 20000 in
theorem gX10_mine_X10_windChanges : GoodIn wsX10_mine (wsV RX10 114 RX10 yX10_windChanges wsX10_windChanges) := goodIn_app (goodIn_of _ (by decide +kernel)) ggX10_mine_X10_windChanges
theorem dX10_mine_0 : decode cX10_mine 0 = .ok (.aload_n 0, 1) := by decide +kernel
theorem dX10_mine_1 : decode cX10_mine 1 = .ok (.getfield 10, 3) := by decide +kernel
theorem dX10_mine_4 : decode cX10_mine 4 = .ok (.invokevirtual 93, 3) := by decide +kernel
theorem dX10_mine_7 : decode cX10_mine 7 = .ok (.ifCond .ne 6, 3) := by decide +kernel
theorem dX10_mine_10 : decode cX10_mine 10 = .ok (.bipush (-103), 2) := by decide +kernel
theorem dX10_mine_12 : decode cX10_mine 12 = .ok (.ireturn, 1) := by decide +kernel
theorem dX10_mine_13 : decode cX10_mine 13 = .ok (.aload_n 0, 1) := by decide +kernel
theorem dX10_mine_14 : decode cX10_mine 14 = .ok (.getfield 19, 3) := by decide +kernel
theorem dX10_mine_17 : decode cX10_mine 17 = .ok (.aload_n 0, 1) := by decide +kernel
theorem dX10_mine_18 : decode cX10_mine 18 = .ok (.getfield 10, 3) := by decide +kernel
theorem dX10_mine_21 : decode cX10_mine 21 = .ok (.invokevirtual 97, 3) := by decide +kernel
theorem dX10_mine_24 : decode cX10_mine 24 = .ok (.aload_n 0, 1) := by decide +kernel
theorem dX10_mine_25 : decode cX10_mine 25 = .ok (.getfield 10, 3) := by decide +kernel
theorem dX10_mine_28 : decode cX10_mine 28 = .ok (.iconst 0, 1) := by decide +kernel
theorem dX10_mine_29 : decode cX10_mine 29 = .ok (.putfield 82, 3) := by decide +kernel
theorem dX10_mine_32 : decode cX10_mine 32 = .ok (.aload_n 0, 1) := by decide +kernel
theorem dX10_mine_33 : decode cX10_mine 33 = .ok (.getfield 43, 3) := by decide +kernel
theorem dX10_mine_36 : decode cX10_mine 36 = .ok (.iconst 0, 1) := by decide +kernel
theorem dX10_mine_37 : decode cX10_mine 37 = .ok (.putfield 101, 3) := by decide +kernel
theorem dX10_mine_40 : decode cX10_mine 40 = .ok (.aload_n 0, 1) := by decide +kernel
theorem dX10_mine_41 : decode cX10_mine 41 = .ok (.getfield 50, 3) := by decide +kernel
theorem dX10_mine_44 : decode cX10_mine 44 = .ok (.aload_n 0, 1) := by decide +kernel
theorem dX10_mine_45 : decode cX10_mine 45 = .ok (.getfield 19, 3) := by decide +kernel
theorem dX10_mine_48 : decode cX10_mine 48 = .ok (.invokevirtual 104, 3) := by decide +kernel
theorem dX10_mine_51 : decode cX10_mine 51 = .ok (.invokevirtual 107, 3) := by decide +kernel
theorem dX10_mine_54 : decode cX10_mine 54 = .ok (.aload_n 0, 1) := by decide +kernel
theorem dX10_mine_55 : decode cX10_mine 55 = .ok (.dup, 1) := by decide +kernel
theorem dX10_mine_56 : decode cX10_mine 56 = .ok (.getfield 111, 3) := by decide +kernel
theorem dX10_mine_59 : decode cX10_mine 59 = .ok (.iconst 1, 1) := by decide +kernel
theorem dX10_mine_60 : decode cX10_mine 60 = .ok (.iadd, 1) := by decide +kernel
theorem dX10_mine_61 : decode cX10_mine 61 = .ok (.putfield 111, 3) := by decide +kernel
theorem dX10_mine_64 : decode cX10_mine 64 = .ok (.aload_n 0, 1) := by decide +kernel
theorem dX10_mine_65 : decode cX10_mine 65 = .ok (.invokevirtual 114, 3) := by decide +kernel
theorem dX10_mine_68 : decode cX10_mine 68 = .ok (.aload_n 0, 1) := by decide +kernel
theorem dX10_mine_69 : decode cX10_mine 69 = .ok (.getfield 19, 3) := by decide +kernel
theorem dX10_mine_72 : decode cX10_mine 72 = .ok (.getfield 117, 3) := by decide +kernel
theorem dX10_mine_75 : decode cX10_mine 75 = .ok (.ireturn, 1) := by decide +kernel
set_option maxRecDepth 20000 in
theorem ggX10_gallery_X5_hasGallery : GoodIn wsX10_gallery wsX5_hasGallery := goodIn_r _ [14, 15, 41, 42, 43, 44, 45, 46, 47] (by decide +kernel) (by decide +kernel)
set_option maxRecDepth 20000 in
theorem gX10_gallery_X5_hasGallery : GoodIn wsX10_gallery (wsV RX10 120 RX5 yX5_hasGallery wsX5_hasGallery) := goodIn_app (goodIn_of _ (by decide +kernel)) ggX10_gallery_X5_hasGallery
set_option maxRecDepth 20000 in
theorem ggX10_gallery_X8_get : GoodIn wsX10_gallery wsX8_get := goodIn_r _ [20, 21, 58] (by decide +kernel) (by decide +kernel)
set_option maxRecDepth 20000 in
theorem gX10_gallery_X8_get : GoodIn wsX10_gallery (wsV RX10 128 RX8 yX8_get wsX8_get) := goodIn_app (goodIn_of _ (by decide +kernel)) ggX10_gallery_X8_get
set_option maxRecDepth 20000 in
theorem ggX10_gallery_X10_bit : GoodIn wsX10_gallery wsX10_bit := goodIn_r _ [25] (by decide +kernel) (by decide +kernel)
set_option maxRecDepth 20000 in
theorem gX10_gallery_X10_bit : GoodIn wsX10_gallery (va_wsS RX10 142 yX10_bit wsX10_bit) := goodIn_app (goodIn_of _ (by decide +kernel)) ggX10_gallery_X10_bit
theorem dX10_gallery_0 : decode cX10_gallery 0 = .ok (.aload_n 0, 1) := by decide +kernel
theorem dX10_gallery_1 : decode cX10_gallery 1 = .ok (.getfield 19, 3) := by decide +kernel
theorem dX10_gallery_4 : decode cX10_gallery 4 = .ok (.iload_n 1, 1) := by decide +kernel
theorem dX10_gallery_5 : decode cX10_gallery 5 = .ok (.invokevirtual 120, 3) := by decide +kernel
theorem dX10_gallery_8 : decode cX10_gallery 8 = .ok (.ifCond .ne 6, 3) := by decide +kernel
theorem dX10_gallery_11 : decode cX10_gallery 11 = .ok (.bipush (-101), 2) := by decide +kernel
theorem dX10_gallery_13 : decode cX10_gallery 13 = .ok (.ireturn, 1) := by decide +kernel
theorem dX10_gallery_14 : decode cX10_gallery 14 = .ok (.iload_n 2, 1) := by decide +kernel
theorem dX10_gallery_15 : decode cX10_gallery 15 = .ok (.tableswitch 109 0 5 #[37, 49, 61, 73, 85, 97], 37) := by decide +kernel
theorem dX10_gallery_52 : decode cX10_gallery 52 = .ok (.aload_n 0, 1) := by decide +kernel
theorem dX10_gallery_53 : decode cX10_gallery 53 = .ok (.getfield 19, 3) := by decide +kernel
theorem dX10_gallery_56 : decode cX10_gallery 56 = .ok (.getfield 124, 3) := by decide +kernel
theorem dX10_gallery_59 : decode cX10_gallery 59 = .ok (.iload_n 1, 1) := by decide +kernel
theorem dX10_gallery_60 : decode cX10_gallery 60 = .ok (.invokevirtual 128, 3) := by decide +kernel
theorem dX10_gallery_63 : decode cX10_gallery 63 = .ok (.ireturn, 1) := by decide +kernel
theorem dX10_gallery_64 : decode cX10_gallery 64 = .ok (.aload_n 0, 1) := by decide +kernel
theorem dX10_gallery_65 : decode cX10_gallery 65 = .ok (.getfield 19, 3) := by decide +kernel
theorem dX10_gallery_68 : decode cX10_gallery 68 = .ok (.getfield 134, 3) := by decide +kernel
theorem dX10_gallery_71 : decode cX10_gallery 71 = .ok (.iload_n 1, 1) := by decide +kernel
theorem dX10_gallery_72 : decode cX10_gallery 72 = .ok (.invokevirtual 128, 3) := by decide +kernel
theorem dX10_gallery_75 : decode cX10_gallery 75 = .ok (.ireturn, 1) := by decide +kernel
theorem dX10_gallery_76 : decode cX10_gallery 76 = .ok (.aload_n 0, 1) := by decide +kernel
theorem dX10_gallery_77 : decode cX10_gallery 77 = .ok (.getfield 19, 3) := by decide +kernel
theorem dX10_gallery_80 : decode cX10_gallery 80 = .ok (.getfield 137, 3) := by decide +kernel
theorem dX10_gallery_83 : decode cX10_gallery 83 = .ok (.iload_n 1, 1) := by decide +kernel
theorem dX10_gallery_84 : decode cX10_gallery 84 = .ok (.invokevirtual 128, 3) := by decide +kernel
theorem dX10_gallery_87 : decode cX10_gallery 87 = .ok (.ireturn, 1) := by decide +kernel
theorem dX10_gallery_88 : decode cX10_gallery 88 = .ok (.aload_n 0, 1) := by decide +kernel
theorem dX10_gallery_89 : decode cX10_gallery 89 = .ok (.getfield 19, 3) := by decide +kernel
theorem dX10_gallery_92 : decode cX10_gallery 92 = .ok (.getfield 139, 3) := by decide +kernel
theorem dX10_gallery_95 : decode cX10_gallery 95 = .ok (.iload_n 1, 1) := by decide +kernel
theorem dX10_gallery_96 : decode cX10_gallery 96 = .ok (.invokestatic 142, 3) := by decide +kernel
theorem dX10_gallery_99 : decode cX10_gallery 99 = .ok (.ireturn, 1) := by decide +kernel
theorem dX10_gallery_100 : decode cX10_gallery 100 = .ok (.aload_n 0, 1) := by decide +kernel
theorem dX10_gallery_101 : decode cX10_gallery 101 = .ok (.getfield 50, 3) := by decide +kernel
theorem dX10_gallery_104 : decode cX10_gallery 104 = .ok (.getfield 146, 3) := by decide +kernel
theorem dX10_gallery_107 : decode cX10_gallery 107 = .ok (.iload_n 1, 1) := by decide +kernel
theorem dX10_gallery_108 : decode cX10_gallery 108 = .ok (.invokestatic 142, 3) := by decide +kernel
theorem dX10_gallery_111 : decode cX10_gallery 111 = .ok (.ireturn, 1) := by decide +kernel
theorem dX10_gallery_112 : decode cX10_gallery 112 = .ok (.aload_n 0, 1) := by decide +kernel
theorem dX10_gallery_113 : decode cX10_gallery 113 = .ok (.getfield 26, 3) := by decide +kernel
theorem dX10_gallery_116 : decode cX10_gallery 116 = .ok (.getfield 149, 3) := by decide +kernel
theorem dX10_gallery_119 : decode cX10_gallery 119 = .ok (.iload_n 1, 1) := by decide +kernel
theorem dX10_gallery_120 : decode cX10_gallery 120 = .ok (.invokevirtual 128, 3) := by decide +kernel
theorem dX10_gallery_123 : decode cX10_gallery 123 = .ok (.ireturn, 1) := by decide +kernel
theorem dX10_gallery_124 : decode cX10_gallery 124 = .ok (.bipush (-102), 2) := by decide +kernel
theorem dX10_gallery_126 : decode cX10_gallery 126 = .ok (.ireturn, 1) := by decide +kernel
set_option maxRecDepth 20000 in
theorem ggX10_knot_X5_isRead : GoodIn wsX10_knot wsX5_isRead := goodIn_r _ [12, 13, 42, 43, 44, 45, 46, 47, 48] (by decide +kernel) (by decide +kernel)
set_option maxRecDepth 20000 in
theorem gX10_knot_X5_isRead : GoodIn wsX10_knot (wsV RX10 152 RX5 yX5_isRead wsX5_isRead) := goodIn_app (goodIn_of _ (by decide +kernel)) ggX10_knot_X5_isRead
set_option maxRecDepth 20000 in
theorem ggX10_knot_X10_isKnot : GoodIn wsX10_knot wsX10_isKnot := goodIn_r _ [17] (by decide +kernel) (by decide +kernel)
set_option maxRecDepth 20000 in
theorem gX10_knot_X10_isKnot : GoodIn wsX10_knot (va_wsS RX10 155 yX10_isKnot wsX10_isKnot) := goodIn_app (goodIn_of _ (by decide +kernel)) ggX10_knot_X10_isKnot
set_option maxRecDepth 20000 in
theorem ggX10_knot_X8_get : GoodIn wsX10_knot wsX8_get := goodIn_r _ [22, 23, 59] (by decide +kernel) (by decide +kernel)
set_option maxRecDepth 20000 in
theorem gX10_knot_X8_get : GoodIn wsX10_knot (wsV RX10 128 RX8 yX8_get wsX8_get) := goodIn_app (goodIn_of _ (by decide +kernel)) ggX10_knot_X8_get
set_option maxRecDepth 20000 in
theorem ggX10_knot_X10_bit : GoodIn wsX10_knot wsX10_bit := goodIn_r _ [26] (by decide +kernel) (by decide +kernel)
set_option maxRecDepth 20000 in
theorem gX10_knot_X10_bit : GoodIn wsX10_knot (va_wsS RX10 142 yX10_bit wsX10_bit) := goodIn_app (goodIn_of _ (by decide +kernel)) ggX10_knot_X10_bit
theorem dX10_knot_0 : decode cX10_knot 0 = .ok (.aload_n 0, 1) := by decide +kernel
theorem dX10_knot_1 : decode cX10_knot 1 = .ok (.getfield 19, 3) := by decide +kernel
theorem dX10_knot_4 : decode cX10_knot 4 = .ok (.invokevirtual 152, 3) := by decide +kernel
theorem dX10_knot_7 : decode cX10_knot 7 = .ok (.ifCond .eq 10, 3) := by decide +kernel
theorem dX10_knot_10 : decode cX10_knot 10 = .ok (.iload_n 1, 1) := by decide +kernel
theorem dX10_knot_11 : decode cX10_knot 11 = .ok (.invokestatic 155, 3) := by decide +kernel
theorem dX10_knot_14 : decode cX10_knot 14 = .ok (.ifCond .ne 6, 3) := by decide +kernel
theorem dX10_knot_17 : decode cX10_knot 17 = .ok (.bipush (-101), 2) := by decide +kernel
theorem dX10_knot_19 : decode cX10_knot 19 = .ok (.ireturn, 1) := by decide +kernel
theorem dX10_knot_20 : decode cX10_knot 20 = .ok (.iload_n 2, 1) := by decide +kernel
theorem dX10_knot_21 : decode cX10_knot 21 = .ok (.tableswitch 79 0 3 #[31, 43, 55, 67], 31) := by decide +kernel
theorem dX10_knot_52 : decode cX10_knot 52 = .ok (.aload_n 0, 1) := by decide +kernel
theorem dX10_knot_53 : decode cX10_knot 53 = .ok (.getfield 19, 3) := by decide +kernel
theorem dX10_knot_56 : decode cX10_knot 56 = .ok (.getfield 158, 3) := by decide +kernel
theorem dX10_knot_59 : decode cX10_knot 59 = .ok (.iload_n 1, 1) := by decide +kernel
theorem dX10_knot_60 : decode cX10_knot 60 = .ok (.invokevirtual 128, 3) := by decide +kernel
theorem dX10_knot_63 : decode cX10_knot 63 = .ok (.ireturn, 1) := by decide +kernel
theorem dX10_knot_64 : decode cX10_knot 64 = .ok (.aload_n 0, 1) := by decide +kernel
theorem dX10_knot_65 : decode cX10_knot 65 = .ok (.getfield 26, 3) := by decide +kernel
theorem dX10_knot_68 : decode cX10_knot 68 = .ok (.getfield 161, 3) := by decide +kernel
theorem dX10_knot_71 : decode cX10_knot 71 = .ok (.iload_n 1, 1) := by decide +kernel
theorem dX10_knot_72 : decode cX10_knot 72 = .ok (.invokevirtual 128, 3) := by decide +kernel
theorem dX10_knot_75 : decode cX10_knot 75 = .ok (.ireturn, 1) := by decide +kernel
theorem dX10_knot_76 : decode cX10_knot 76 = .ok (.aload_n 0, 1) := by decide +kernel
theorem dX10_knot_77 : decode cX10_knot 77 = .ok (.getfield 26, 3) := by decide +kernel
theorem dX10_knot_80 : decode cX10_knot 80 = .ok (.getfield 164, 3) := by decide +kernel
theorem dX10_knot_83 : decode cX10_knot 83 = .ok (.iload_n 1, 1) := by decide +kernel
theorem dX10_knot_84 : decode cX10_knot 84 = .ok (.invokestatic 142, 3) := by decide +kernel
theorem dX10_knot_87 : decode cX10_knot 87 = .ok (.ireturn, 1) := by decide +kernel
theorem dX10_knot_88 : decode cX10_knot 88 = .ok (.aload_n 0, 1) := by decide +kernel
theorem dX10_knot_89 : decode cX10_knot 89 = .ok (.getfield 50, 3) := by decide +kernel
theorem dX10_knot_92 : decode cX10_knot 92 = .ok (.getfield 167, 3) := by decide +kernel
theorem dX10_knot_95 : decode cX10_knot 95 = .ok (.iload_n 1, 1) := by decide +kernel
theorem dX10_knot_96 : decode cX10_knot 96 = .ok (.invokevirtual 128, 3) := by decide +kernel
theorem dX10_knot_99 : decode cX10_knot 99 = .ok (.ireturn, 1) := by decide +kernel
theorem dX10_knot_100 : decode cX10_knot 100 = .ok (.bipush (-102), 2) := by decide +kernel
theorem dX10_knot_102 : decode cX10_knot 102 = .ok (.ireturn, 1) := by decide +kernel
set_option maxRecDepth 20000 in
theorem ggX10_door_X5_hasGallery : GoodIn wsX10_door wsX5_hasGallery := goodIn_r _ [9, 10, 128, 129, 130, 131, 132, 133, 134] (by decide +kernel) (by decide +kernel)
set_option maxRecDepth 20000 in
theorem gX10_door_X5_hasGallery : GoodIn wsX10_door (wsV RX10 120 RX5 yX5_hasGallery wsX5_hasGallery) := goodIn_app (goodIn_of _ (by decide +kernel)) ggX10_door_X5_hasGallery
set_option maxRecDepth 20000 in
theorem ggX10_door_X10_bit : GoodIn wsX10_door wsX10_bit := goodIn_r _ [14] (by decide +kernel) (by decide +kernel)
set_option maxRecDepth 20000 in
theorem gX10_door_X10_bit : GoodIn wsX10_door (va_wsS RX10 142 yX10_bit wsX10_bit) := goodIn_app (goodIn_of _ (by decide +kernel)) ggX10_door_X10_bit
set_option maxRecDepth 20000 in
theorem ggX10_door_X10_windChanges : GoodIn wsX10_door wsX10_windChanges := goodIn_r _ [18, 19, 1, 3, 4, 20, 21, 22, 23, 24, 25, 26, 27, 28, 29, 30, 31, 32, 33, 34, 35, 36, 37, 38, 39, 40, 41, 42, 12, 13, 14, 43, 44, 45, 46, 47, 48, 49, 50, 51, 52, 53, 54, 55, 56, 57, 58, 59, 60, 61, 62, 63, 8, 64, 65, 66, 67, 68, 69, 70, 71, 72, 73, 74, 75, 76, 77, 78, 79, 80, 81, 82, 83, 84, 85, 86, 87, 88, 89, 90, 91, 92, 93, 94, 95, 96, 97, 98, 99, 100, 101, 102, 103, 104, 105, 106, 107, 108, 109, 110, 111, 112, 113, 114, 115, 116, 117, 118, 119, 120, 121, 122, 123, 124, 125, 126, 127, 135, 136, 137, 138, 139, 140, 141, 142, 143, 144, 128, 129, 130, 131, 132, 133, 134, 145, 146] (by decide +kernel) (by decide +kernel)
set_option maxRecDepth 20000 in
theorem gX10_door_X10_windChanges : GoodIn wsX10_door (wsV RX10 114 RX10 yX10_windChanges wsX10_windChanges) := goodIn_app (goodIn_of _ (by decide +kernel)) ggX10_door_X10_windChanges
theorem dX10_door_0 : decode cX10_door 0 = .ok (.aload_n 0, 1) := by decide +kernel
theorem dX10_door_1 : decode cX10_door 1 = .ok (.getfield 19, 3) := by decide +kernel
theorem dX10_door_4 : decode cX10_door 4 = .ok (.iload_n 1, 1) := by decide +kernel
theorem dX10_door_5 : decode cX10_door 5 = .ok (.invokevirtual 120, 3) := by decide +kernel
theorem dX10_door_8 : decode cX10_door 8 = .ok (.ifCond .ne 6, 3) := by decide +kernel
theorem dX10_door_11 : decode cX10_door 11 = .ok (.bipush (-101), 2) := by decide +kernel
theorem dX10_door_13 : decode cX10_door 13 = .ok (.ireturn, 1) := by decide +kernel
theorem dX10_door_14 : decode cX10_door 14 = .ok (.aload_n 0, 1) := by decide +kernel
theorem dX10_door_15 : decode cX10_door 15 = .ok (.getfield 19, 3) := by decide +kernel
theorem dX10_door_18 : decode cX10_door 18 = .ok (.getfield 139, 3) := by decide +kernel
theorem dX10_door_21 : decode cX10_door 21 = .ok (.iload_n 1, 1) := by decide +kernel
theorem dX10_door_22 : decode cX10_door 22 = .ok (.invokestatic 142, 3) := by decide +kernel
theorem dX10_door_25 : decode cX10_door 25 = .ok (.ifCond .ne 6, 3) := by decide +kernel
theorem dX10_door_28 : decode cX10_door 28 = .ok (.bipush (-103), 2) := by decide +kernel
theorem dX10_door_30 : decode cX10_door 30 = .ok (.ireturn, 1) := by decide +kernel
theorem dX10_door_31 : decode cX10_door 31 = .ok (.aload_n 0, 1) := by decide +kernel
theorem dX10_door_32 : decode cX10_door 32 = .ok (.getfield 50, 3) := by decide +kernel
theorem dX10_door_35 : decode cX10_door 35 = .ok (.getfield 146, 3) := by decide +kernel
theorem dX10_door_38 : decode cX10_door 38 = .ok (.iload_n 1, 1) := by decide +kernel
theorem dX10_door_39 : decode cX10_door 39 = .ok (.invokestatic 142, 3) := by decide +kernel
theorem dX10_door_42 : decode cX10_door 42 = .ok (.istore_n 3, 1) := by decide +kernel
theorem dX10_door_43 : decode cX10_door 43 = .ok (.aload_n 0, 1) := by decide +kernel
theorem dX10_door_44 : decode cX10_door 44 = .ok (.getfield 50, 3) := by decide +kernel
theorem dX10_door_47 : decode cX10_door 47 = .ok (.iload_n 2, 1) := by decide +kernel
theorem dX10_door_48 : decode cX10_door 48 = .ok (.ifCond .eq 17, 3) := by decide +kernel
theorem dX10_door_51 : decode cX10_door 51 = .ok (.aload_n 0, 1) := by decide +kernel
theorem dX10_door_52 : decode cX10_door 52 = .ok (.getfield 50, 3) := by decide +kernel
theorem dX10_door_55 : decode cX10_door 55 = .ok (.getfield 146, 3) := by decide +kernel
theorem dX10_door_58 : decode cX10_door 58 = .ok (.iconst 1, 1) := by decide +kernel
theorem dX10_door_59 : decode cX10_door 59 = .ok (.iload_n 1, 1) := by decide +kernel
theorem dX10_door_60 : decode cX10_door 60 = .ok (.ishl, 1) := by decide +kernel
theorem dX10_door_61 : decode cX10_door 61 = .ok (.ior, 1) := by decide +kernel
theorem dX10_door_62 : decode cX10_door 62 = .ok (.goto 16, 3) := by decide +kernel
theorem dX10_door_65 : decode cX10_door 65 = .ok (.aload_n 0, 1) := by decide +kernel
theorem dX10_door_66 : decode cX10_door 66 = .ok (.getfield 50, 3) := by decide +kernel
theorem dX10_door_69 : decode cX10_door 69 = .ok (.getfield 146, 3) := by decide +kernel
theorem dX10_door_72 : decode cX10_door 72 = .ok (.iconst 1, 1) := by decide +kernel
theorem dX10_door_73 : decode cX10_door 73 = .ok (.iload_n 1, 1) := by decide +kernel
theorem dX10_door_74 : decode cX10_door 74 = .ok (.ishl, 1) := by decide +kernel
theorem dX10_door_75 : decode cX10_door 75 = .ok (.iconst (-1), 1) := by decide +kernel
theorem dX10_door_76 : decode cX10_door 76 = .ok (.ixor, 1) := by decide +kernel
theorem dX10_door_77 : decode cX10_door 77 = .ok (.iand, 1) := by decide +kernel
theorem dX10_door_78 : decode cX10_door 78 = .ok (.putfield 146, 3) := by decide +kernel
theorem dX10_door_81 : decode cX10_door 81 = .ok (.aload_n 0, 1) := by decide +kernel
theorem dX10_door_82 : decode cX10_door 82 = .ok (.invokevirtual 114, 3) := by decide +kernel
theorem dX10_door_85 : decode cX10_door 85 = .ok (.iload_n 3, 1) := by decide +kernel
theorem dX10_door_86 : decode cX10_door 86 = .ok (.ireturn, 1) := by decide +kernel
set_option maxRecDepth 20000 in
theorem ggX10_turn_X5_isRead : GoodIn wsX10_turn wsX5_isRead := goodIn_r _ [8, 9, 132, 133, 134, 135, 136, 137, 138] (by decide +kernel) (by decide +kernel)
set_option maxRecDepth 20000 in
theorem gX10_turn_X5_isRead : GoodIn wsX10_turn (wsV RX10 152 RX5 yX5_isRead wsX5_isRead) := goodIn_app (goodIn_of _ (by decide +kernel)) ggX10_turn_X5_isRead
set_option maxRecDepth 20000 in
theorem ggX10_turn_X10_windChanges : GoodIn wsX10_turn wsX10_windChanges := goodIn_r _ [14, 15, 1, 2, 16, 3, 17, 18, 19, 20, 21, 22, 23, 24, 25, 26, 27, 28, 29, 30, 31, 32, 33, 34, 35, 36, 37, 38, 39, 13, 40, 41, 42, 43, 44, 45, 46, 47, 48, 49, 50, 51, 52, 53, 54, 55, 56, 57, 58, 59, 60, 61, 7, 62, 63, 64, 65, 66, 67, 68, 69, 70, 71, 72, 73, 74, 75, 76, 77, 78, 79, 80, 81, 82, 83, 84, 85, 86, 87, 88, 89, 90, 91, 92, 93, 94, 95, 96, 97, 98, 99, 100, 101, 102, 103, 104, 105, 106, 107, 108, 109, 110, 111, 112, 113, 114, 115, 116, 117, 118, 119, 120, 121, 122, 123, 124, 125, 126, 127, 128, 129, 130, 131, 139, 140, 141, 142, 132, 133, 134, 135, 136, 137, 138, 143, 144] (by decide +kernel) (by decide +kernel)
set_option maxRecDepth 20000 in
theorem gX10_turn_X10_windChanges : GoodIn wsX10_turn (wsV RX10 114 RX10 yX10_windChanges wsX10_windChanges) := goodIn_app (goodIn_of _ (by decide +kernel)) ggX10_turn_X10_windChanges
theorem dX10_turn_0 : decode cX10_turn 0 = .ok (.aload_n 0, 1) := by decide +kernel
theorem dX10_turn_1 : decode cX10_turn 1 = .ok (.getfield 19, 3) := by decide +kernel
theorem dX10_turn_4 : decode cX10_turn 4 = .ok (.invokevirtual 152, 3) := by decide +kernel
theorem dX10_turn_7 : decode cX10_turn 7 = .ok (.ifCond .ne 6, 3) := by decide +kernel
theorem dX10_turn_10 : decode cX10_turn 10 = .ok (.bipush (-103), 2) := by decide +kernel
theorem dX10_turn_12 : decode cX10_turn 12 = .ok (.ireturn, 1) := by decide +kernel
theorem dX10_turn_13 : decode cX10_turn 13 = .ok (.aload_n 0, 1) := by decide +kernel
theorem dX10_turn_14 : decode cX10_turn 14 = .ok (.getfield 50, 3) := by decide +kernel
theorem dX10_turn_17 : decode cX10_turn 17 = .ok (.aload_n 0, 1) := by decide +kernel
theorem dX10_turn_18 : decode cX10_turn 18 = .ok (.getfield 50, 3) := by decide +kernel
theorem dX10_turn_21 : decode cX10_turn 21 = .ok (.getfield 170, 3) := by decide +kernel
theorem dX10_turn_24 : decode cX10_turn 24 = .ok (.ifCond .ne 7, 3) := by decide +kernel
theorem dX10_turn_27 : decode cX10_turn 27 = .ok (.iconst 1, 1) := by decide +kernel
theorem dX10_turn_28 : decode cX10_turn 28 = .ok (.goto 4, 3) := by decide +kernel
theorem dX10_turn_31 : decode cX10_turn 31 = .ok (.iconst 0, 1) := by decide +kernel
theorem dX10_turn_32 : decode cX10_turn 32 = .ok (.putfield 170, 3) := by decide +kernel
theorem dX10_turn_35 : decode cX10_turn 35 = .ok (.aload_n 0, 1) := by decide +kernel
theorem dX10_turn_36 : decode cX10_turn 36 = .ok (.invokevirtual 114, 3) := by decide +kernel
theorem dX10_turn_39 : decode cX10_turn 39 = .ok (.aload_n 0, 1) := by decide +kernel
theorem dX10_turn_40 : decode cX10_turn 40 = .ok (.getfield 50, 3) := by decide +kernel
theorem dX10_turn_43 : decode cX10_turn 43 = .ok (.getfield 170, 3) := by decide +kernel
theorem dX10_turn_46 : decode cX10_turn 46 = .ok (.ifCond .eq 7, 3) := by decide +kernel
theorem dX10_turn_49 : decode cX10_turn 49 = .ok (.iconst 1, 1) := by decide +kernel
theorem dX10_turn_50 : decode cX10_turn 50 = .ok (.goto 4, 3) := by decide +kernel
theorem dX10_turn_53 : decode cX10_turn 53 = .ok (.iconst 0, 1) := by decide +kernel
theorem dX10_turn_54 : decode cX10_turn 54 = .ok (.ireturn, 1) := by decide +kernel
set_option maxRecDepth 20000 in
theorem ggX10_man_X5_isRead : GoodIn wsX10_man wsX5_isRead := goodIn_r _ [11, 12, 50, 51, 52, 53, 54, 55, 56] (by decide +kernel) (by decide +kernel)
set_option maxRecDepth 20000 in
theorem gX10_man_X5_isRead : GoodIn wsX10_man (wsV RX10 152 RX5 yX5_isRead wsX5_isRead) := goodIn_app (goodIn_of _ (by decide +kernel)) ggX10_man_X5_isRead
set_option maxRecDepth 20000 in
theorem ggX10_man_X1_isKind : GoodIn wsX10_man wsX1_isKind := goodIn_r _ [16] (by decide +kernel) (by decide +kernel)
set_option maxRecDepth 20000 in
theorem gX10_man_X1_isKind : GoodIn wsX10_man (va_wsS RX10 174 yX1_isKind wsX1_isKind) := goodIn_app (goodIn_of _ (by decide +kernel)) ggX10_man_X1_isKind
set_option maxRecDepth 20000 in
theorem ggX10_man_X10_isKnot : GoodIn wsX10_man wsX10_isKnot := goodIn_r _ [20] (by decide +kernel) (by decide +kernel)
set_option maxRecDepth 20000 in
theorem gX10_man_X10_isKnot : GoodIn wsX10_man (va_wsS RX10 155 yX10_isKnot wsX10_isKnot) := goodIn_app (goodIn_of _ (by decide +kernel)) ggX10_man_X10_isKnot
set_option maxRecDepth 20000 in
theorem ggX10_man_X8_set : GoodIn wsX10_man wsX8_set := goodIn_r _ [25, 26, 57] (by decide +kernel) (by decide +kernel)
set_option maxRecDepth 20000 in
theorem gX10_man_X8_set : GoodIn wsX10_man (wsV RX10 180 RX8 yX8_set wsX8_set) := goodIn_app (goodIn_of _ (by decide +kernel)) ggX10_man_X8_set
theorem dX10_man_0 : decode cX10_man 0 = .ok (.aload_n 0, 1) := by decide +kernel
theorem dX10_man_1 : decode cX10_man 1 = .ok (.getfield 19, 3) := by decide +kernel
theorem dX10_man_4 : decode cX10_man 4 = .ok (.invokevirtual 152, 3) := by decide +kernel
theorem dX10_man_7 : decode cX10_man 7 = .ok (.ifCond .ne 6, 3) := by decide +kernel
theorem dX10_man_10 : decode cX10_man 10 = .ok (.bipush (-103), 2) := by decide +kernel
theorem dX10_man_12 : decode cX10_man 12 = .ok (.ireturn, 1) := by decide +kernel
theorem dX10_man_13 : decode cX10_man 13 = .ok (.iload_n 1, 1) := by decide +kernel
theorem dX10_man_14 : decode cX10_man 14 = .ok (.invokestatic 174, 3) := by decide +kernel
theorem dX10_man_17 : decode cX10_man 17 = .ok (.ifCond .ne 6, 3) := by decide +kernel
theorem dX10_man_20 : decode cX10_man 20 = .ok (.bipush (-102), 2) := by decide +kernel
theorem dX10_man_22 : decode cX10_man 22 = .ok (.ireturn, 1) := by decide +kernel
theorem dX10_man_23 : decode cX10_man 23 = .ok (.iload_n 2, 1) := by decide +kernel
theorem dX10_man_24 : decode cX10_man 24 = .ok (.invokestatic 155, 3) := by decide +kernel
theorem dX10_man_27 : decode cX10_man 27 = .ok (.ifCond .ne 6, 3) := by decide +kernel
theorem dX10_man_30 : decode cX10_man 30 = .ok (.bipush (-101), 2) := by decide +kernel
theorem dX10_man_32 : decode cX10_man 32 = .ok (.ireturn, 1) := by decide +kernel
theorem dX10_man_33 : decode cX10_man 33 = .ok (.aload_n 0, 1) := by decide +kernel
theorem dX10_man_34 : decode cX10_man 34 = .ok (.getfield 43, 3) := by decide +kernel
theorem dX10_man_37 : decode cX10_man 37 = .ok (.getfield 101, 3) := by decide +kernel
theorem dX10_man_40 : decode cX10_man 40 = .ok (.bipush 6, 2) := by decide +kernel
theorem dX10_man_42 : decode cX10_man 42 = .ok (.if_icmp .lt 6, 3) := by decide +kernel
theorem dX10_man_45 : decode cX10_man 45 = .ok (.bipush (-104), 2) := by decide +kernel
theorem dX10_man_47 : decode cX10_man 47 = .ok (.ireturn, 1) := by decide +kernel
theorem dX10_man_48 : decode cX10_man 48 = .ok (.aload_n 0, 1) := by decide +kernel
theorem dX10_man_49 : decode cX10_man 49 = .ok (.getfield 43, 3) := by decide +kernel
theorem dX10_man_52 : decode cX10_man 52 = .ok (.getfield 101, 3) := by decide +kernel
theorem dX10_man_55 : decode cX10_man 55 = .ok (.istore_n 3, 1) := by decide +kernel
theorem dX10_man_56 : decode cX10_man 56 = .ok (.aload_n 0, 1) := by decide +kernel
theorem dX10_man_57 : decode cX10_man 57 = .ok (.getfield 43, 3) := by decide +kernel
theorem dX10_man_60 : decode cX10_man 60 = .ok (.getfield 177, 3) := by decide +kernel
theorem dX10_man_63 : decode cX10_man 63 = .ok (.iload_n 3, 1) := by decide +kernel
theorem dX10_man_64 : decode cX10_man 64 = .ok (.iload_n 1, 1) := by decide +kernel
theorem dX10_man_65 : decode cX10_man 65 = .ok (.invokevirtual 180, 3) := by decide +kernel
theorem dX10_man_68 : decode cX10_man 68 = .ok (.aload_n 0, 1) := by decide +kernel
theorem dX10_man_69 : decode cX10_man 69 = .ok (.getfield 43, 3) := by decide +kernel
theorem dX10_man_72 : decode cX10_man 72 = .ok (.dup, 1) := by decide +kernel
theorem dX10_man_73 : decode cX10_man 73 = .ok (.getfield 101, 3) := by decide +kernel
theorem dX10_man_76 : decode cX10_man 76 = .ok (.iconst 1, 1) := by decide +kernel
theorem dX10_man_77 : decode cX10_man 77 = .ok (.iadd, 1) := by decide +kernel
theorem dX10_man_78 : decode cX10_man 78 = .ok (.putfield 101, 3) := by decide +kernel
theorem dX10_man_81 : decode cX10_man 81 = .ok (.aload_n 0, 1) := by decide +kernel
theorem dX10_man_82 : decode cX10_man 82 = .ok (.getfield 50, 3) := by decide +kernel
theorem dX10_man_85 : decode cX10_man 85 = .ok (.getfield 184, 3) := by decide +kernel
theorem dX10_man_88 : decode cX10_man 88 = .ok (.iload_n 3, 1) := by decide +kernel
theorem dX10_man_89 : decode cX10_man 89 = .ok (.iload_n 2, 1) := by decide +kernel
theorem dX10_man_90 : decode cX10_man 90 = .ok (.invokevirtual 180, 3) := by decide +kernel
theorem dX10_man_93 : decode cX10_man 93 = .ok (.iload_n 3, 1) := by decide +kernel
theorem dX10_man_94 : decode cX10_man 94 = .ok (.ireturn, 1) := by decide +kernel
set_option maxRecDepth 20000 in
theorem ggX10_about_X1_has : GoodIn wsX10_about wsX1_has := goodIn_r _ [10, 11, 43, 44] (by decide +kernel) (by decide +kernel)
set_option maxRecDepth 20000 in
theorem gX10_about_X1_has : GoodIn wsX10_about (wsV RX10 187 RX1 yX1_has wsX1_has) := goodIn_app (goodIn_of _ (by decide +kernel)) ggX10_about_X1_has
set_option maxRecDepth 20000 in
theorem ggX10_about_X8_get : GoodIn wsX10_about wsX8_get := goodIn_r _ [16, 17, 51] (by decide +kernel) (by decide +kernel)
set_option maxRecDepth 20000 in
theorem gX10_about_X8_get : GoodIn wsX10_about (wsV RX10 128 RX8 yX8_get wsX8_get) := goodIn_app (goodIn_of _ (by decide +kernel)) ggX10_about_X8_get
set_option maxRecDepth 20000 in
theorem ggX10_about_X10_bit : GoodIn wsX10_about wsX10_bit := goodIn_r _ [21] (by decide +kernel) (by decide +kernel)
set_option maxRecDepth 20000 in
theorem gX10_about_X10_bit : GoodIn wsX10_about (va_wsS RX10 142 yX10_bit wsX10_bit) := goodIn_app (goodIn_of _ (by decide +kernel)) ggX10_about_X10_bit
set_option maxRecDepth 20000 in
theorem ggX10_about_X1_bears : GoodIn wsX10_about wsX1_bears := goodIn_r _ [25, 26, 27, 13, 14, 15, 16, 17, 43, 44, 51] (by decide +kernel) (by decide +kernel)
set_option maxRecDepth 20000 in
theorem gX10_about_X1_bears : GoodIn wsX10_about (wsV RX10 193 RX1 yX1_bears wsX1_bears) := goodIn_app (goodIn_of _ (by decide +kernel)) ggX10_about_X1_bears
theorem dX10_about_0 : decode cX10_about 0 = .ok (.aload_n 0, 1) := by decide +kernel
theorem dX10_about_1 : decode cX10_about 1 = .ok (.getfield 43, 3) := by decide +kernel
theorem dX10_about_4 : decode cX10_about 4 = .ok (.iload_n 1, 1) := by decide +kernel
theorem dX10_about_5 : decode cX10_about 5 = .ok (.invokevirtual 187, 3) := by decide +kernel
theorem dX10_about_8 : decode cX10_about 8 = .ok (.ifCond .ne 6, 3) := by decide +kernel
theorem dX10_about_11 : decode cX10_about 11 = .ok (.bipush (-101), 2) := by decide +kernel
theorem dX10_about_13 : decode cX10_about 13 = .ok (.ireturn, 1) := by decide +kernel
theorem dX10_about_14 : decode cX10_about 14 = .ok (.iload_n 2, 1) := by decide +kernel
theorem dX10_about_15 : decode cX10_about 15 = .ok (.tableswitch 74 0 3 #[29, 41, 53, 65], 29) := by decide +kernel
theorem dX10_about_44 : decode cX10_about 44 = .ok (.aload_n 0, 1) := by decide +kernel
theorem dX10_about_45 : decode cX10_about 45 = .ok (.getfield 43, 3) := by decide +kernel
theorem dX10_about_48 : decode cX10_about 48 = .ok (.getfield 177, 3) := by decide +kernel
theorem dX10_about_51 : decode cX10_about 51 = .ok (.iload_n 1, 1) := by decide +kernel
theorem dX10_about_52 : decode cX10_about 52 = .ok (.invokevirtual 128, 3) := by decide +kernel
theorem dX10_about_55 : decode cX10_about 55 = .ok (.ireturn, 1) := by decide +kernel
theorem dX10_about_56 : decode cX10_about 56 = .ok (.aload_n 0, 1) := by decide +kernel
theorem dX10_about_57 : decode cX10_about 57 = .ok (.getfield 50, 3) := by decide +kernel
theorem dX10_about_60 : decode cX10_about 60 = .ok (.getfield 184, 3) := by decide +kernel
theorem dX10_about_63 : decode cX10_about 63 = .ok (.iload_n 1, 1) := by decide +kernel
theorem dX10_about_64 : decode cX10_about 64 = .ok (.invokevirtual 128, 3) := by decide +kernel
theorem dX10_about_67 : decode cX10_about 67 = .ok (.ireturn, 1) := by decide +kernel
theorem dX10_about_68 : decode cX10_about 68 = .ok (.aload_n 0, 1) := by decide +kernel
theorem dX10_about_69 : decode cX10_about 69 = .ok (.getfield 50, 3) := by decide +kernel
theorem dX10_about_72 : decode cX10_about 72 = .ok (.getfield 190, 3) := by decide +kernel
theorem dX10_about_75 : decode cX10_about 75 = .ok (.iload_n 1, 1) := by decide +kernel
theorem dX10_about_76 : decode cX10_about 76 = .ok (.invokestatic 142, 3) := by decide +kernel
theorem dX10_about_79 : decode cX10_about 79 = .ok (.ireturn, 1) := by decide +kernel
theorem dX10_about_80 : decode cX10_about 80 = .ok (.aload_n 0, 1) := by decide +kernel
theorem dX10_about_81 : decode cX10_about 81 = .ok (.getfield 43, 3) := by decide +kernel
theorem dX10_about_84 : decode cX10_about 84 = .ok (.iload_n 1, 1) := by decide +kernel
theorem dX10_about_85 : decode cX10_about 85 = .ok (.invokevirtual 193, 3) := by decide +kernel
theorem dX10_about_88 : decode cX10_about 88 = .ok (.ireturn, 1) := by decide +kernel
theorem dX10_about_89 : decode cX10_about 89 = .ok (.bipush (-102), 2) := by decide +kernel
theorem dX10_about_91 : decode cX10_about 91 = .ok (.ireturn, 1) := by decide +kernel
set_option maxRecDepth 20000 in
theorem ggX10_as_X1_has : GoodIn wsX10_as wsX1_has := goodIn_r _ [6, 7, 37, 38] (by decide +kernel) (by decide +kernel)
set_option maxRecDepth 20000 in
theorem gX10_as_X1_has : GoodIn wsX10_as (wsV RX10 187 RX1 yX1_has wsX1_has) := goodIn_app (goodIn_of _ (by decide +kernel)) ggX10_as_X1_has
set_option maxRecDepth 20000 in
theorem ggX10_as_X1_isKind : GoodIn wsX10_as wsX1_isKind := goodIn_r _ [10] (by decide +kernel) (by decide +kernel)
set_option maxRecDepth 20000 in
theorem gX10_as_X1_isKind : GoodIn wsX10_as (va_wsS RX10 174 yX1_isKind wsX1_isKind) := goodIn_app (goodIn_of _ (by decide +kernel)) ggX10_as_X1_isKind
set_option maxRecDepth 20000 in
theorem ggX10_as_X1_isOf : GoodIn wsX10_as wsX1_isOf := goodIn_r _ [14, 15, 16, 17, 18, 19, 20, 21, 37, 38, 39] (by decide +kernel) (by decide +kernel)
set_option maxRecDepth 20000 in
theorem gX10_as_X1_isOf : GoodIn wsX10_as (wsV RX10 196 RX1 yX1_isOf wsX1_isOf) := goodIn_app (goodIn_of _ (by decide +kernel)) ggX10_as_X1_isOf
theorem dX10_as_0 : decode cX10_as 0 = .ok (.aload_n 0, 1) := by decide +kernel
theorem dX10_as_1 : decode cX10_as 1 = .ok (.getfield 43, 3) := by decide +kernel
theorem dX10_as_4 : decode cX10_as 4 = .ok (.iload_n 1, 1) := by decide +kernel
theorem dX10_as_5 : decode cX10_as 5 = .ok (.invokevirtual 187, 3) := by decide +kernel
theorem dX10_as_8 : decode cX10_as 8 = .ok (.ifCond .ne 6, 3) := by decide +kernel
theorem dX10_as_11 : decode cX10_as 11 = .ok (.bipush (-101), 2) := by decide +kernel
theorem dX10_as_13 : decode cX10_as 13 = .ok (.ireturn, 1) := by decide +kernel
theorem dX10_as_14 : decode cX10_as 14 = .ok (.iload_n 2, 1) := by decide +kernel
theorem dX10_as_15 : decode cX10_as 15 = .ok (.invokestatic 174, 3) := by decide +kernel
theorem dX10_as_18 : decode cX10_as 18 = .ok (.ifCond .ne 6, 3) := by decide +kernel
theorem dX10_as_21 : decode cX10_as 21 = .ok (.bipush (-102), 2) := by decide +kernel
theorem dX10_as_23 : decode cX10_as 23 = .ok (.ireturn, 1) := by decide +kernel
theorem dX10_as_24 : decode cX10_as 24 = .ok (.aload_n 0, 1) := by decide +kernel
theorem dX10_as_25 : decode cX10_as 25 = .ok (.getfield 43, 3) := by decide +kernel
theorem dX10_as_28 : decode cX10_as 28 = .ok (.iload_n 1, 1) := by decide +kernel
theorem dX10_as_29 : decode cX10_as 29 = .ok (.iload_n 2, 1) := by decide +kernel
theorem dX10_as_30 : decode cX10_as 30 = .ok (.invokevirtual 196, 3) := by decide +kernel
theorem dX10_as_33 : decode cX10_as 33 = .ok (.ifCond .eq 7, 3) := by decide +kernel
theorem dX10_as_36 : decode cX10_as 36 = .ok (.iload_n 1, 1) := by decide +kernel
theorem dX10_as_37 : decode cX10_as 37 = .ok (.goto 4, 3) := by decide +kernel
theorem dX10_as_40 : decode cX10_as 40 = .ok (.iconst (-1), 1) := by decide +kernel
theorem dX10_as_41 : decode cX10_as 41 = .ok (.ireturn, 1) := by decide +kernel
set_option maxRecDepth 20000 in
theorem ggX10_walk_X1_has : GoodIn wsX10_walk wsX1_has := goodIn_r _ [11, 12, 71, 72] (by decide +kernel) (by decide +kernel)
set_option maxRecDepth 20000 in
theorem gX10_walk_X1_has : GoodIn wsX10_walk (wsV RX10 187 RX1 yX1_has wsX1_has) := goodIn_app (goodIn_of _ (by decide +kernel)) ggX10_walk_X1_has
set_option maxRecDepth 20000 in
theorem ggX10_walk_X5_hasGallery : GoodIn wsX10_walk wsX5_hasGallery := goodIn_r _ [17, 18, 73, 74, 75, 76, 77, 78, 79] (by decide +kernel) (by decide +kernel)
set_option maxRecDepth 20000 in
theorem gX10_walk_X5_hasGallery : GoodIn wsX10_walk (wsV RX10 120 RX5 yX5_hasGallery wsX5_hasGallery) := goodIn_app (goodIn_of _ (by decide +kernel)) ggX10_walk_X5_hasGallery
set_option maxRecDepth 20000 in
theorem ggX10_walk_X8_get : GoodIn wsX10_walk wsX8_get := goodIn_r _ [23, 24, 80] (by decide +kernel) (by decide +kernel)
set_option maxRecDepth 20000 in
theorem gX10_walk_X8_get : GoodIn wsX10_walk (wsV RX10 128 RX8 yX8_get wsX8_get) := goodIn_app (goodIn_of _ (by decide +kernel)) ggX10_walk_X8_get
set_option maxRecDepth 20000 in
theorem ggX10_walk_X10_bit : GoodIn wsX10_walk wsX10_bit := goodIn_r _ [28] (by decide +kernel) (by decide +kernel)
set_option maxRecDepth 20000 in
theorem gX10_walk_X10_bit : GoodIn wsX10_walk (va_wsS RX10 142 yX10_bit wsX10_bit) := goodIn_app (goodIn_of _ (by decide +kernel)) ggX10_walk_X10_bit
set_option maxRecDepth 20000 in
theorem ggX10_walk_X1_isOf : GoodIn wsX10_walk wsX1_isOf := goodIn_r _ [32, 33, 34, 20, 21, 22, 23, 24, 71, 72, 80] (by decide +kernel) (by decide +kernel)
set_option maxRecDepth 20000 in
theorem gX10_walk_X1_isOf : GoodIn wsX10_walk (wsV RX10 196 RX1 yX1_isOf wsX1_isOf) := goodIn_app (goodIn_of _ (by decide +kernel)) ggX10_walk_X1_isOf
set_option maxRecDepth 20000 in
theorem ggX10_walk_X5_isAt : GoodIn wsX10_walk wsX5_isAt := goodIn_r _ [38, 39, 40, 41, 20, 21, 22, 23, 24, 73, 74, 75, 76, 77, 78, 79, 80] (by decide +kernel) (by decide +kernel)
set_option maxRecDepth 20000 in
theorem gX10_walk_X5_isAt : GoodIn wsX10_walk (wsV RX10 200 RX5 yX5_isAt wsX5_isAt) := goodIn_app (goodIn_of _ (by decide +kernel)) ggX10_walk_X5_isAt
