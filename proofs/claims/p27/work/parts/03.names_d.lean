set_option maxRecDepth 20000 in
theorem ggX10_walk_X5_otherEnd : GoodIn wsX10_walk wsX5_otherEnd := goodIn_r _ [45, 39, 40, 41, 20, 21, 22, 23, 24, 73, 74, 75, 76, 77, 78, 79, 80] (by decide +kernel) (by decide +kernel)
set_option maxRecDepth 20000 in
theorem gX10_walk_X5_otherEnd : GoodIn wsX10_walk (wsV RX10 203 RX5 yX5_otherEnd wsX5_otherEnd) := goodIn_app (goodIn_of _ (by decide +kernel)) ggX10_walk_X5_otherEnd
set_option maxRecDepth 20000 in
theorem ggX10_walk_X8_set : GoodIn wsX10_walk wsX8_set := goodIn_r _ [49, 24, 80] (by decide +kernel) (by decide +kernel)
set_option maxRecDepth 20000 in
theorem gX10_walk_X8_set : GoodIn wsX10_walk (wsV RX10 180 RX8 yX8_set wsX8_set) := goodIn_app (goodIn_of _ (by decide +kernel)) ggX10_walk_X8_set
theorem dX10_walk_0 : decode cX10_walk 0 = .ok (.aload_n 0, 1) := by decide +kernel
theorem dX10_walk_1 : decode cX10_walk 1 = .ok (.getfield 43, 3) := by decide +kernel
theorem dX10_walk_4 : decode cX10_walk 4 = .ok (.iload_n 1, 1) := by decide +kernel
theorem dX10_walk_5 : decode cX10_walk 5 = .ok (.invokevirtual 187, 3) := by decide +kernel
theorem dX10_walk_8 : decode cX10_walk 8 = .ok (.ifCond .eq 14, 3) := by decide +kernel
theorem dX10_walk_11 : decode cX10_walk 11 = .ok (.aload_n 0, 1) := by decide +kernel
theorem dX10_walk_12 : decode cX10_walk 12 = .ok (.getfield 19, 3) := by decide +kernel
theorem dX10_walk_15 : decode cX10_walk 15 = .ok (.iload_n 2, 1) := by decide +kernel
theorem dX10_walk_16 : decode cX10_walk 16 = .ok (.invokevirtual 120, 3) := by decide +kernel
theorem dX10_walk_19 : decode cX10_walk 19 = .ok (.ifCond .ne 6, 3) := by decide +kernel
theorem dX10_walk_22 : decode cX10_walk 22 = .ok (.bipush (-101), 2) := by decide +kernel
theorem dX10_walk_24 : decode cX10_walk 24 = .ok (.ireturn, 1) := by decide +kernel
theorem dX10_walk_25 : decode cX10_walk 25 = .ok (.aload_n 0, 1) := by decide +kernel
theorem dX10_walk_26 : decode cX10_walk 26 = .ok (.getfield 50, 3) := by decide +kernel
theorem dX10_walk_29 : decode cX10_walk 29 = .ok (.getfield 184, 3) := by decide +kernel
theorem dX10_walk_32 : decode cX10_walk 32 = .ok (.iload_n 1, 1) := by decide +kernel
theorem dX10_walk_33 : decode cX10_walk 33 = .ok (.invokevirtual 128, 3) := by decide +kernel
theorem dX10_walk_36 : decode cX10_walk 36 = .ok (.istore_n 3, 1) := by decide +kernel
theorem dX10_walk_37 : decode cX10_walk 37 = .ok (.aload_n 0, 1) := by decide +kernel
theorem dX10_walk_38 : decode cX10_walk 38 = .ok (.getfield 50, 3) := by decide +kernel
theorem dX10_walk_41 : decode cX10_walk 41 = .ok (.getfield 146, 3) := by decide +kernel
theorem dX10_walk_44 : decode cX10_walk 44 = .ok (.iload_n 2, 1) := by decide +kernel
theorem dX10_walk_45 : decode cX10_walk 45 = .ok (.invokestatic 142, 3) := by decide +kernel
theorem dX10_walk_48 : decode cX10_walk 48 = .ok (.ifCond .ne 19, 3) := by decide +kernel
theorem dX10_walk_51 : decode cX10_walk 51 = .ok (.aload_n 0, 1) := by decide +kernel
theorem dX10_walk_52 : decode cX10_walk 52 = .ok (.getfield 43, 3) := by decide +kernel
theorem dX10_walk_55 : decode cX10_walk 55 = .ok (.iload_n 1, 1) := by decide +kernel
theorem dX10_walk_56 : decode cX10_walk 56 = .ok (.iconst 3, 1) := by decide +kernel
theorem dX10_walk_57 : decode cX10_walk 57 = .ok (.invokevirtual 196, 3) := by decide +kernel
theorem dX10_walk_60 : decode cX10_walk 60 = .ok (.ifCond .ne 7, 3) := by decide +kernel
theorem dX10_walk_63 : decode cX10_walk 63 = .ok (.iconst 1, 1) := by decide +kernel
theorem dX10_walk_64 : decode cX10_walk 64 = .ok (.goto 4, 3) := by decide +kernel
theorem dX10_walk_67 : decode cX10_walk 67 = .ok (.iconst 0, 1) := by decide +kernel
theorem dX10_walk_68 : decode cX10_walk 68 = .ok (.istore 4, 2) := by decide +kernel
theorem dX10_walk_70 : decode cX10_walk 70 = .ok (.aload_n 0, 1) := by decide +kernel
theorem dX10_walk_71 : decode cX10_walk 71 = .ok (.getfield 50, 3) := by decide +kernel
theorem dX10_walk_74 : decode cX10_walk 74 = .ok (.getfield 190, 3) := by decide +kernel
theorem dX10_walk_77 : decode cX10_walk 77 = .ok (.iload_n 1, 1) := by decide +kernel
theorem dX10_walk_78 : decode cX10_walk 78 = .ok (.invokestatic 142, 3) := by decide +kernel
theorem dX10_walk_81 : decode cX10_walk 81 = .ok (.iconst 1, 1) := by decide +kernel
theorem dX10_walk_82 : decode cX10_walk 82 = .ok (.if_icmp .eq 20, 3) := by decide +kernel
theorem dX10_walk_85 : decode cX10_walk 85 = .ok (.aload_n 0, 1) := by decide +kernel
theorem dX10_walk_86 : decode cX10_walk 86 = .ok (.getfield 19, 3) := by decide +kernel
theorem dX10_walk_89 : decode cX10_walk 89 = .ok (.iload_n 2, 1) := by decide +kernel
theorem dX10_walk_90 : decode cX10_walk 90 = .ok (.iload_n 3, 1) := by decide +kernel
theorem dX10_walk_91 : decode cX10_walk 91 = .ok (.invokevirtual 200, 3) := by decide +kernel
theorem dX10_walk_94 : decode cX10_walk 94 = .ok (.ifCond .eq 8, 3) := by decide +kernel
theorem dX10_walk_97 : decode cX10_walk 97 = .ok (.iload 4, 2) := by decide +kernel
theorem dX10_walk_99 : decode cX10_walk 99 = .ok (.ifCond .eq 6, 3) := by decide +kernel
theorem dX10_walk_102 : decode cX10_walk 102 = .ok (.bipush (-103), 2) := by decide +kernel
theorem dX10_walk_104 : decode cX10_walk 104 = .ok (.ireturn, 1) := by decide +kernel
theorem dX10_walk_105 : decode cX10_walk 105 = .ok (.aload_n 0, 1) := by decide +kernel
theorem dX10_walk_106 : decode cX10_walk 106 = .ok (.getfield 19, 3) := by decide +kernel
theorem dX10_walk_109 : decode cX10_walk 109 = .ok (.iload_n 2, 1) := by decide +kernel
theorem dX10_walk_110 : decode cX10_walk 110 = .ok (.iload_n 3, 1) := by decide +kernel
theorem dX10_walk_111 : decode cX10_walk 111 = .ok (.invokevirtual 203, 3) := by decide +kernel
theorem dX10_walk_114 : decode cX10_walk 114 = .ok (.istore 5, 2) := by decide +kernel
theorem dX10_walk_116 : decode cX10_walk 116 = .ok (.aload_n 0, 1) := by decide +kernel
theorem dX10_walk_117 : decode cX10_walk 117 = .ok (.getfield 50, 3) := by decide +kernel
theorem dX10_walk_120 : decode cX10_walk 120 = .ok (.getfield 184, 3) := by decide +kernel
theorem dX10_walk_123 : decode cX10_walk 123 = .ok (.iload_n 1, 1) := by decide +kernel
theorem dX10_walk_124 : decode cX10_walk 124 = .ok (.iload 5, 2) := by decide +kernel
theorem dX10_walk_126 : decode cX10_walk 126 = .ok (.invokevirtual 180, 3) := by decide +kernel
theorem dX10_walk_129 : decode cX10_walk 129 = .ok (.iload 5, 2) := by decide +kernel
theorem dX10_walk_131 : decode cX10_walk 131 = .ok (.ireturn, 1) := by decide +kernel
set_option maxRecDepth 20000 in
theorem ggX10_minutes_X5_isRead : GoodIn wsX10_minutes wsX5_isRead := goodIn_r _ [11, 12, 79, 80, 81, 82, 83, 84, 85] (by decide +kernel) (by decide +kernel)
set_option maxRecDepth 20000 in
theorem gX10_minutes_X5_isRead : GoodIn wsX10_minutes (wsV RX10 152 RX5 yX5_isRead wsX5_isRead) := goodIn_app (goodIn_of _ (by decide +kernel)) ggX10_minutes_X5_isRead
set_option maxRecDepth 20000 in
theorem ggX10_minutes_J6_bitCount_0f7a4 : GoodIn wsX10_minutes wsJ6_bitCount_0f7a4 := goodIn_r _ [16, 17, 18, 19] (by decide +kernel) (by decide +kernel)
set_option maxRecDepth 20000 in
theorem gX10_minutes_J6_bitCount_0f7a4 : GoodIn wsX10_minutes (va_wsS RX10 206 yJ6_bitCount_0f7a4 wsJ6_bitCount_0f7a4) := goodIn_app (goodIn_of _ (by decide +kernel)) ggX10_minutes_J6_bitCount_0f7a4
set_option maxRecDepth 20000 in
theorem ggX10_minutes_X3_passMinute : GoodIn wsX10_minutes wsX3_passMinute := goodIn_r _ [24, 25, 26, 27, 28, 29, 30, 31, 32, 33, 34, 35, 36, 37, 38, 39, 40, 41, 42, 43, 44, 45, 46, 47, 48, 49, 50, 51, 52, 53, 69, 70, 71, 72, 73, 74, 86, 87, 88] (by decide +kernel) (by decide +kernel)
set_option maxRecDepth 20000 in
theorem gX10_minutes_X3_passMinute : GoodIn wsX10_minutes (wsV RX10 211 RX3 yX3_passMinute wsX3_passMinute) := goodIn_app (goodIn_of _ (by decide +kernel)) ggX10_minutes_X3_passMinute
theorem dX10_minutes_0 : decode cX10_minutes 0 = .ok (.iload_n 1, 1) := by decide +kernel
theorem dX10_minutes_1 : decode cX10_minutes 1 = .ok (.iconst 1, 1) := by decide +kernel
theorem dX10_minutes_2 : decode cX10_minutes 2 = .ok (.if_icmp .lt 9, 3) := by decide +kernel
theorem dX10_minutes_5 : decode cX10_minutes 5 = .ok (.iload_n 1, 1) := by decide +kernel
theorem dX10_minutes_6 : decode cX10_minutes 6 = .ok (.bipush 60, 2) := by decide +kernel
theorem dX10_minutes_8 : decode cX10_minutes 8 = .ok (.if_icmp .le 6, 3) := by decide +kernel
theorem dX10_minutes_11 : decode cX10_minutes 11 = .ok (.bipush (-102), 2) := by decide +kernel
theorem dX10_minutes_13 : decode cX10_minutes 13 = .ok (.ireturn, 1) := by decide +kernel
theorem dX10_minutes_14 : decode cX10_minutes 14 = .ok (.aload_n 0, 1) := by decide +kernel
theorem dX10_minutes_15 : decode cX10_minutes 15 = .ok (.getfield 19, 3) := by decide +kernel
theorem dX10_minutes_18 : decode cX10_minutes 18 = .ok (.invokevirtual 152, 3) := by decide +kernel
theorem dX10_minutes_21 : decode cX10_minutes 21 = .ok (.ifCond .ne 6, 3) := by decide +kernel
theorem dX10_minutes_24 : decode cX10_minutes 24 = .ok (.bipush (-103), 2) := by decide +kernel
theorem dX10_minutes_26 : decode cX10_minutes 26 = .ok (.ireturn, 1) := by decide +kernel
theorem dX10_minutes_27 : decode cX10_minutes 27 = .ok (.aload_n 0, 1) := by decide +kernel
theorem dX10_minutes_28 : decode cX10_minutes 28 = .ok (.getfield 50, 3) := by decide +kernel
theorem dX10_minutes_31 : decode cX10_minutes 31 = .ok (.getfield 190, 3) := by decide +kernel
theorem dX10_minutes_34 : decode cX10_minutes 34 = .ok (.invokestatic 206, 3) := by decide +kernel
theorem dX10_minutes_37 : decode cX10_minutes 37 = .ok (.istore_n 2, 1) := by decide +kernel
theorem dX10_minutes_38 : decode cX10_minutes 38 = .ok (.iconst 0, 1) := by decide +kernel
theorem dX10_minutes_39 : decode cX10_minutes 39 = .ok (.istore_n 3, 1) := by decide +kernel
theorem dX10_minutes_40 : decode cX10_minutes 40 = .ok (.iload_n 3, 1) := by decide +kernel
theorem dX10_minutes_41 : decode cX10_minutes 41 = .ok (.iload_n 1, 1) := by decide +kernel
theorem dX10_minutes_42 : decode cX10_minutes 42 = .ok (.if_icmp .ge 27, 3) := by decide +kernel
theorem dX10_minutes_45 : decode cX10_minutes 45 = .ok (.aload_n 0, 1) := by decide +kernel
theorem dX10_minutes_46 : decode cX10_minutes 46 = .ok (.getfield 50, 3) := by decide +kernel
theorem dX10_minutes_49 : decode cX10_minutes 49 = .ok (.aload_n 0, 1) := by decide +kernel
theorem dX10_minutes_50 : decode cX10_minutes 50 = .ok (.getfield 43, 3) := by decide +kernel
theorem dX10_minutes_53 : decode cX10_minutes 53 = .ok (.aload_n 0, 1) := by decide +kernel
theorem dX10_minutes_54 : decode cX10_minutes 54 = .ok (.getfield 26, 3) := by decide +kernel
theorem dX10_minutes_57 : decode cX10_minutes 57 = .ok (.getfield 164, 3) := by decide +kernel
theorem dX10_minutes_60 : decode cX10_minutes 60 = .ok (.invokevirtual 211, 3) := by decide +kernel
theorem dX10_minutes_63 : decode cX10_minutes 63 = .ok (.iinc 3 1, 3) := by decide +kernel
theorem dX10_minutes_66 : decode cX10_minutes 66 = .ok (.goto (-26), 3) := by decide +kernel
theorem dX10_minutes_69 : decode cX10_minutes 69 = .ok (.aload_n 0, 1) := by decide +kernel
theorem dX10_minutes_70 : decode cX10_minutes 70 = .ok (.getfield 50, 3) := by decide +kernel
theorem dX10_minutes_73 : decode cX10_minutes 73 = .ok (.getfield 190, 3) := by decide +kernel
theorem dX10_minutes_76 : decode cX10_minutes 76 = .ok (.invokestatic 206, 3) := by decide +kernel
theorem dX10_minutes_79 : decode cX10_minutes 79 = .ok (.iload_n 2, 1) := by decide +kernel
theorem dX10_minutes_80 : decode cX10_minutes 80 = .ok (.isub, 1) := by decide +kernel
theorem dX10_minutes_81 : decode cX10_minutes 81 = .ok (.ireturn, 1) := by decide +kernel
set_option maxRecDepth 20000 in
theorem ggX10_smelt_X5_isRead : GoodIn wsX10_smelt wsX5_isRead := goodIn_r _ [7, 8, 40, 41, 42, 43, 44, 45, 46] (by decide +kernel) (by decide +kernel)
set_option maxRecDepth 20000 in
theorem gX10_smelt_X5_isRead : GoodIn wsX10_smelt (wsV RX10 152 RX5 yX5_isRead wsX5_isRead) := goodIn_app (goodIn_of _ (by decide +kernel)) ggX10_smelt_X5_isRead
set_option maxRecDepth 20000 in
theorem ggX10_smelt_X10_isKnot : GoodIn wsX10_smelt wsX10_isKnot := goodIn_r _ [12] (by decide +kernel) (by decide +kernel)
set_option maxRecDepth 20000 in
theorem gX10_smelt_X10_isKnot : GoodIn wsX10_smelt (va_wsS RX10 155 yX10_isKnot wsX10_isKnot) := goodIn_app (goodIn_of _ (by decide +kernel)) ggX10_smelt_X10_isKnot
set_option maxRecDepth 20000 in
theorem ggX10_smelt_X9_between : GoodIn wsX10_smelt wsX9_between := goodIn_r _ [17, 18, 19, 20, 21, 22, 23, 24, 47, 48] (by decide +kernel) (by decide +kernel)
set_option maxRecDepth 20000 in
theorem gX10_smelt_X9_between : GoodIn wsX10_smelt (wsV RX10 215 RX9 yX9_between wsX9_between) := goodIn_app (goodIn_of _ (by decide +kernel)) ggX10_smelt_X9_between
theorem dX10_smelt_0 : decode cX10_smelt 0 = .ok (.aload_n 0, 1) := by decide +kernel
theorem dX10_smelt_1 : decode cX10_smelt 1 = .ok (.getfield 19, 3) := by decide +kernel
theorem dX10_smelt_4 : decode cX10_smelt 4 = .ok (.invokevirtual 152, 3) := by decide +kernel
theorem dX10_smelt_7 : decode cX10_smelt 7 = .ok (.ifCond .ne 6, 3) := by decide +kernel
theorem dX10_smelt_10 : decode cX10_smelt 10 = .ok (.bipush (-103), 2) := by decide +kernel
theorem dX10_smelt_12 : decode cX10_smelt 12 = .ok (.ireturn, 1) := by decide +kernel
theorem dX10_smelt_13 : decode cX10_smelt 13 = .ok (.iload_n 1, 1) := by decide +kernel
theorem dX10_smelt_14 : decode cX10_smelt 14 = .ok (.invokestatic 155, 3) := by decide +kernel
theorem dX10_smelt_17 : decode cX10_smelt 17 = .ok (.ifCond .eq 10, 3) := by decide +kernel
theorem dX10_smelt_20 : decode cX10_smelt 20 = .ok (.iload_n 2, 1) := by decide +kernel
theorem dX10_smelt_21 : decode cX10_smelt 21 = .ok (.invokestatic 155, 3) := by decide +kernel
theorem dX10_smelt_24 : decode cX10_smelt 24 = .ok (.ifCond .ne 6, 3) := by decide +kernel
theorem dX10_smelt_27 : decode cX10_smelt 27 = .ok (.bipush (-101), 2) := by decide +kernel
theorem dX10_smelt_29 : decode cX10_smelt 29 = .ok (.ireturn, 1) := by decide +kernel
theorem dX10_smelt_30 : decode cX10_smelt 30 = .ok (.aload_n 0, 1) := by decide +kernel
theorem dX10_smelt_31 : decode cX10_smelt 31 = .ok (.getfield 36, 3) := by decide +kernel
theorem dX10_smelt_34 : decode cX10_smelt 34 = .ok (.iload_n 1, 1) := by decide +kernel
theorem dX10_smelt_35 : decode cX10_smelt 35 = .ok (.iload_n 2, 1) := by decide +kernel
theorem dX10_smelt_36 : decode cX10_smelt 36 = .ok (.invokevirtual 215, 3) := by decide +kernel
theorem dX10_smelt_39 : decode cX10_smelt 39 = .ok (.ireturn, 1) := by decide +kernel
set_option maxRecDepth 20000 in
theorem ggX10_wayOut_X5_isRead : GoodIn wsX10_wayOut wsX5_isRead := goodIn_r _ [7, 8, 55, 56, 57, 58, 59, 60, 61] (by decide +kernel) (by decide +kernel)
set_option maxRecDepth 20000 in
theorem gX10_wayOut_X5_isRead : GoodIn wsX10_wayOut (wsV RX10 152 RX5 yX5_isRead wsX5_isRead) := goodIn_app (goodIn_of _ (by decide +kernel)) ggX10_wayOut_X5_isRead
set_option maxRecDepth 20000 in
theorem ggX10_wayOut_X10_isKnot : GoodIn wsX10_wayOut wsX10_isKnot := goodIn_r _ [12] (by decide +kernel) (by decide +kernel)
set_option maxRecDepth 20000 in
theorem gX10_wayOut_X10_isKnot : GoodIn wsX10_wayOut (va_wsS RX10 155 yX10_isKnot wsX10_isKnot) := goodIn_app (goodIn_of _ (by decide +kernel)) ggX10_wayOut_X10_isKnot
set_option maxRecDepth 20000 in
theorem ggX10_wayOut_X5_isShaft : GoodIn wsX10_wayOut wsX5_isShaft := goodIn_r _ [16, 17, 18, 11, 19, 55, 56, 57, 58, 59, 60, 61] (by decide +kernel) (by decide +kernel)
set_option maxRecDepth 20000 in
theorem gX10_wayOut_X5_isShaft : GoodIn wsX10_wayOut (wsV RX10 227 RX5 yX5_isShaft wsX5_isShaft) := goodIn_app (goodIn_of _ (by decide +kernel)) ggX10_wayOut_X5_isShaft
set_option maxRecDepth 20000 in
theorem ggX10_wayOut_X0_firstInto : GoodIn wsX10_wayOut wsX0_firstInto := goodIn_r _ [24, 25, 26, 27, 28, 29, 30, 31, 32, 55, 56, 57, 58, 59, 60, 61, 62, 63, 64, 65, 66] (by decide +kernel) (by decide +kernel)
set_option maxRecDepth 20000 in
theorem gX10_wayOut_X0_firstInto : GoodIn wsX10_wayOut (wsV RX10 230 RX0 yX0_firstInto wsX0_firstInto) := goodIn_app (goodIn_of _ (by decide +kernel)) ggX10_wayOut_X0_firstInto
set_option maxRecDepth 20000 in
theorem ggX10_wayOut_X5_otherEnd : GoodIn wsX10_wayOut wsX5_otherEnd := goodIn_r _ [36, 37, 38, 39, 28, 29, 30, 31, 32, 55, 56, 57, 58, 59, 60, 61, 66] (by decide +kernel) (by decide +kernel)
set_option maxRecDepth 20000 in
theorem gX10_wayOut_X5_otherEnd : GoodIn wsX10_wayOut (wsV RX10 203 RX5 yX5_otherEnd wsX5_otherEnd) := goodIn_app (goodIn_of _ (by decide +kernel)) ggX10_wayOut_X5_otherEnd
theorem dX10_wayOut_0 : decode cX10_wayOut 0 = .ok (.aload_n 0, 1) := by decide +kernel
theorem dX10_wayOut_1 : decode cX10_wayOut 1 = .ok (.getfield 19, 3) := by decide +kernel
theorem dX10_wayOut_4 : decode cX10_wayOut 4 = .ok (.invokevirtual 152, 3) := by decide +kernel
theorem dX10_wayOut_7 : decode cX10_wayOut 7 = .ok (.ifCond .ne 6, 3) := by decide +kernel
theorem dX10_wayOut_10 : decode cX10_wayOut 10 = .ok (.bipush (-103), 2) := by decide +kernel
theorem dX10_wayOut_12 : decode cX10_wayOut 12 = .ok (.ireturn, 1) := by decide +kernel
theorem dX10_wayOut_13 : decode cX10_wayOut 13 = .ok (.iload_n 1, 1) := by decide +kernel
theorem dX10_wayOut_14 : decode cX10_wayOut 14 = .ok (.invokestatic 155, 3) := by decide +kernel
theorem dX10_wayOut_17 : decode cX10_wayOut 17 = .ok (.ifCond .ne 6, 3) := by decide +kernel
theorem dX10_wayOut_20 : decode cX10_wayOut 20 = .ok (.bipush (-101), 2) := by decide +kernel
theorem dX10_wayOut_22 : decode cX10_wayOut 22 = .ok (.ireturn, 1) := by decide +kernel
theorem dX10_wayOut_23 : decode cX10_wayOut 23 = .ok (.iload_n 1, 1) := by decide +kernel
theorem dX10_wayOut_24 : decode cX10_wayOut 24 = .ok (.istore_n 2, 1) := by decide +kernel
theorem dX10_wayOut_25 : decode cX10_wayOut 25 = .ok (.iconst 0, 1) := by decide +kernel
theorem dX10_wayOut_26 : decode cX10_wayOut 26 = .ok (.istore_n 3, 1) := by decide +kernel
theorem dX10_wayOut_27 : decode cX10_wayOut 27 = .ok (.iload_n 3, 1) := by decide +kernel
theorem dX10_wayOut_28 : decode cX10_wayOut 28 = .ok (.bipush 7, 2) := by decide +kernel
theorem dX10_wayOut_30 : decode cX10_wayOut 30 = .ok (.if_icmp .ge 55, 3) := by decide +kernel
theorem dX10_wayOut_33 : decode cX10_wayOut 33 = .ok (.aload_n 0, 1) := by decide +kernel
theorem dX10_wayOut_34 : decode cX10_wayOut 34 = .ok (.getfield 19, 3) := by decide +kernel
theorem dX10_wayOut_37 : decode cX10_wayOut 37 = .ok (.iload_n 2, 1) := by decide +kernel
theorem dX10_wayOut_38 : decode cX10_wayOut 38 = .ok (.invokevirtual 227, 3) := by decide +kernel
theorem dX10_wayOut_41 : decode cX10_wayOut 41 = .ok (.ifCond .eq 5, 3) := by decide +kernel
theorem dX10_wayOut_44 : decode cX10_wayOut 44 = .ok (.iload_n 3, 1) := by decide +kernel
theorem dX10_wayOut_45 : decode cX10_wayOut 45 = .ok (.ireturn, 1) := by decide +kernel
theorem dX10_wayOut_46 : decode cX10_wayOut 46 = .ok (.aload_n 0, 1) := by decide +kernel
theorem dX10_wayOut_47 : decode cX10_wayOut 47 = .ok (.getfield 26, 3) := by decide +kernel
theorem dX10_wayOut_50 : decode cX10_wayOut 50 = .ok (.aload_n 0, 1) := by decide +kernel
theorem dX10_wayOut_51 : decode cX10_wayOut 51 = .ok (.getfield 19, 3) := by decide +kernel
theorem dX10_wayOut_54 : decode cX10_wayOut 54 = .ok (.iload_n 2, 1) := by decide +kernel
theorem dX10_wayOut_55 : decode cX10_wayOut 55 = .ok (.invokevirtual 230, 3) := by decide +kernel
theorem dX10_wayOut_58 : decode cX10_wayOut 58 = .ok (.istore 4, 2) := by decide +kernel
theorem dX10_wayOut_60 : decode cX10_wayOut 60 = .ok (.iload 4, 2) := by decide +kernel
theorem dX10_wayOut_62 : decode cX10_wayOut 62 = .ok (.iconst (-1), 1) := by decide +kernel
theorem dX10_wayOut_63 : decode cX10_wayOut 63 = .ok (.if_icmp .ne 5, 3) := by decide +kernel
theorem dX10_wayOut_66 : decode cX10_wayOut 66 = .ok (.iconst (-1), 1) := by decide +kernel
theorem dX10_wayOut_67 : decode cX10_wayOut 67 = .ok (.ireturn, 1) := by decide +kernel
theorem dX10_wayOut_68 : decode cX10_wayOut 68 = .ok (.aload_n 0, 1) := by decide +kernel
theorem dX10_wayOut_69 : decode cX10_wayOut 69 = .ok (.getfield 19, 3) := by decide +kernel
theorem dX10_wayOut_72 : decode cX10_wayOut 72 = .ok (.iload 4, 2) := by decide +kernel
theorem dX10_wayOut_74 : decode cX10_wayOut 74 = .ok (.iload_n 2, 1) := by decide +kernel
theorem dX10_wayOut_75 : decode cX10_wayOut 75 = .ok (.invokevirtual 203, 3) := by decide +kernel
theorem dX10_wayOut_78 : decode cX10_wayOut 78 = .ok (.istore_n 2, 1) := by decide +kernel
theorem dX10_wayOut_79 : decode cX10_wayOut 79 = .ok (.iinc 3 1, 3) := by decide +kernel
theorem dX10_wayOut_82 : decode cX10_wayOut 82 = .ok (.goto (-55), 3) := by decide +kernel
theorem dX10_wayOut_85 : decode cX10_wayOut 85 = .ok (.iconst (-1), 1) := by decide +kernel
theorem dX10_wayOut_86 : decode cX10_wayOut 86 = .ok (.ireturn, 1) := by decide +kernel
set_option maxRecDepth 20000 in
theorem ggX10_walks_X5_isRead : GoodIn wsX10_walks wsX5_isRead := goodIn_r _ [16, 17, 146, 147, 148, 149, 150, 151, 152] (by decide +kernel) (by decide +kernel)
set_option maxRecDepth 20000 in
theorem gX10_walks_X5_isRead : GoodIn wsX10_walks (wsV RX10 152 RX5 yX5_isRead wsX5_isRead) := goodIn_app (goodIn_of _ (by decide +kernel)) ggX10_walks_X5_isRead
set_option maxRecDepth 20000 in
theorem ggX10_walks_X3_copyFrom : GoodIn wsX10_walks wsX3_copyFrom := goodIn_r _ [22, 23, 24, 25, 26, 27, 28, 29, 30, 31, 32, 33, 34, 35, 36, 37, 38, 140, 141, 142, 143, 144, 145, 153] (by decide +kernel) (by decide +kernel)
set_option maxRecDepth 20000 in
theorem gX10_walks_X3_copyFrom : GoodIn wsX10_walks (wsV RX10 258 RX3 yX3_copyFrom wsX3_copyFrom) := goodIn_app (goodIn_of _ (by decide +kernel)) ggX10_walks_X3_copyFrom
set_option maxRecDepth 20000 in
theorem ggX10_walks_X10_dreamWalk : GoodIn wsX10_walks wsX10_dreamWalk := goodIn_r _ [43, 6, 44, 4, 2, 9, 10, 1, 45, 46, 47, 48, 49, 50, 51, 52, 53, 54, 55, 56, 57, 42, 58, 59, 36, 37, 32, 38, 34, 60, 61, 62, 15, 63, 17, 64, 65, 66, 67, 68, 69, 70, 71, 72, 73, 74, 75, 76, 77, 78, 79, 80, 81, 82, 83, 84, 85, 86, 87, 88, 89, 90, 91, 92, 120, 121, 122, 123, 124, 125, 126, 127, 128, 129, 130, 131, 132, 133, 134, 154, 155, 140, 141, 142, 143, 144, 145, 135, 153, 146, 147, 148, 149, 150, 151, 152] (by decide +kernel) (by decide +kernel)
set_option maxRecDepth 20000 in
theorem gX10_walks_X10_dreamWalk : GoodIn wsX10_walks (wsV RX10 265 RX10 yX10_dreamWalk wsX10_dreamWalk) := goodIn_app (goodIn_of _ (by decide +kernel)) ggX10_walks_X10_dreamWalk
set_option maxRecDepth 20000 in
theorem ggX10_walks_X3_passMinute : GoodIn wsX10_walks wsX3_passMinute := goodIn_r _ [96, 25, 97, 98, 99, 100, 101, 26, 27, 28, 57, 42, 58, 102, 36, 37, 32, 38, 34, 103, 90, 91, 92, 104, 105, 106, 107, 108, 109, 110, 140, 141, 142, 143, 144, 145, 154, 155, 153] (by decide +kernel) (by decide +kernel)
set_option maxRecDepth 20000 in
theorem gX10_walks_X3_passMinute : GoodIn wsX10_walks (wsV RX10 211 RX3 yX3_passMinute wsX3_passMinute) := goodIn_app (goodIn_of _ (by decide +kernel)) ggX10_walks_X3_passMinute
set_option maxRecDepth 20000 in
theorem ggX10_walks_J6_bitCount_0f7a4 : GoodIn wsX10_walks wsJ6_bitCount_0f7a4 := goodIn_r _ [74, 75, 76, 77] (by decide +kernel) (by decide +kernel)
set_option maxRecDepth 20000 in
theorem gX10_walks_J6_bitCount_0f7a4 : GoodIn wsX10_walks (va_wsS RX10 206 yJ6_bitCount_0f7a4 wsJ6_bitCount_0f7a4) := goodIn_app (goodIn_of _ (by decide +kernel)) ggX10_walks_J6_bitCount_0f7a4
set_option maxRecDepth 20000 in
theorem ggX10_walks_X1_has : GoodIn wsX10_walks wsX1_has := goodIn_r _ [114, 115, 154, 155] (by decide +kernel) (by decide +kernel)
set_option maxRecDepth 20000 in
theorem gX10_walks_X1_has : GoodIn wsX10_walks (wsV RX10 187 RX1 yX1_has wsX1_has) := goodIn_app (goodIn_of _ (by decide +kernel)) ggX10_walks_X1_has
set_option maxRecDepth 20000 in
theorem ggX10_walks_X8_get : GoodIn wsX10_walks wsX8_get := goodIn_r _ [38, 34, 153] (by decide +kernel) (by decide +kernel)
set_option maxRecDepth 20000 in
theorem gX10_walks_X8_get : GoodIn wsX10_walks (wsV RX10 128 RX8 yX8_get wsX8_get) := goodIn_app (goodIn_of _ (by decide +kernel)) ggX10_walks_X8_get
set_option maxRecDepth 20000 in
theorem ggX10_walks_X8_sum : GoodIn wsX10_walks wsX8_sum := goodIn_r _ [119, 34, 153] (by decide +kernel) (by decide +kernel)
set_option maxRecDepth 20000 in
theorem gX10_walks_X8_sum : GoodIn wsX10_walks (wsV RX10 268 RX8 yX8_sum wsX8_sum) := goodIn_app (goodIn_of _ (by decide +kernel)) ggX10_walks_X8_sum
theorem dX10_walks_0 : decode cX10_walks 0 = .ok (.aload_n 0, 1) := by decide +kernel
theorem dX10_walks_1 : decode cX10_walks 1 = .ok (.getfield 19, 3) := by decide +kernel
theorem dX10_walks_4 : decode cX10_walks 4 = .ok (.invokevirtual 152, 3) := by decide +kernel
theorem dX10_walks_7 : decode cX10_walks 7 = .ok (.ifCond .ne 6, 3) := by decide +kernel
theorem dX10_walks_10 : decode cX10_walks 10 = .ok (.bipush (-103), 2) := by decide +kernel
theorem dX10_walks_12 : decode cX10_walks 12 = .ok (.ireturn, 1) := by decide +kernel
theorem dX10_walks_13 : decode cX10_walks 13 = .ok (.iload_n 1, 1) := by decide +kernel
theorem dX10_walks_14 : decode cX10_walks 14 = .ok (.iconst 1, 1) := by decide +kernel
theorem dX10_walks_15 : decode cX10_walks 15 = .ok (.if_icmp .lt 22, 3) := by decide +kernel
theorem dX10_walks_18 : decode cX10_walks 18 = .ok (.iload_n 1, 1) := by decide +kernel
theorem dX10_walks_19 : decode cX10_walks 19 = .ok (.bipush 60, 2) := by decide +kernel
theorem dX10_walks_21 : decode cX10_walks 21 = .ok (.if_icmp .gt 16, 3) := by decide +kernel
theorem dX10_walks_24 : decode cX10_walks 24 = .ok (.iload_n 2, 1) := by decide +kernel
theorem dX10_walks_25 : decode cX10_walks 25 = .ok (.ifCond .lt 12, 3) := by decide +kernel
theorem dX10_walks_28 : decode cX10_walks 28 = .ok (.iload_n 3, 1) := by decide +kernel
theorem dX10_walks_29 : decode cX10_walks 29 = .ok (.ifCond .lt 8, 3) := by decide +kernel
theorem dX10_walks_32 : decode cX10_walks 32 = .ok (.iload_n 3, 1) := by decide +kernel
theorem dX10_walks_33 : decode cX10_walks 33 = .ok (.iconst 3, 1) := by decide +kernel
theorem dX10_walks_34 : decode cX10_walks 34 = .ok (.if_icmp .le 6, 3) := by decide +kernel
theorem dX10_walks_37 : decode cX10_walks 37 = .ok (.bipush (-102), 2) := by decide +kernel
theorem dX10_walks_39 : decode cX10_walks 39 = .ok (.ireturn, 1) := by decide +kernel
theorem dX10_walks_40 : decode cX10_walks 40 = .ok (.aload_n 0, 1) := by decide +kernel
theorem dX10_walks_41 : decode cX10_walks 41 = .ok (.getfield 57, 3) := by decide +kernel
theorem dX10_walks_44 : decode cX10_walks 44 = .ok (.aload_n 0, 1) := by decide +kernel
theorem dX10_walks_45 : decode cX10_walks 45 = .ok (.getfield 50, 3) := by decide +kernel
theorem dX10_walks_48 : decode cX10_walks 48 = .ok (.invokevirtual 258, 3) := by decide +kernel
theorem dX10_walks_51 : decode cX10_walks 51 = .ok (.aload_n 0, 1) := by decide +kernel
theorem dX10_walks_52 : decode cX10_walks 52 = .ok (.getfield 63, 3) := by decide +kernel
theorem dX10_walks_55 : decode cX10_walks 55 = .ok (.iload_n 2, 1) := by decide +kernel
theorem dX10_walks_56 : decode cX10_walks 56 = .ok (.putfield 262, 3) := by decide +kernel
theorem dX10_walks_59 : decode cX10_walks 59 = .ok (.iconst 0, 1) := by decide +kernel
theorem dX10_walks_60 : decode cX10_walks 60 = .ok (.istore 4, 2) := by decide +kernel
theorem dX10_walks_62 : decode cX10_walks 62 = .ok (.iload 4, 2) := by decide +kernel
theorem dX10_walks_64 : decode cX10_walks 64 = .ok (.iload_n 1, 1) := by decide +kernel
theorem dX10_walks_65 : decode cX10_walks 65 = .ok (.if_icmp .ge 31, 3) := by decide +kernel
theorem dX10_walks_68 : decode cX10_walks 68 = .ok (.aload_n 0, 1) := by decide +kernel
theorem dX10_walks_69 : decode cX10_walks 69 = .ok (.invokevirtual 265, 3) := by decide +kernel
theorem dX10_walks_72 : decode cX10_walks 72 = .ok (.aload_n 0, 1) := by decide +kernel
theorem dX10_walks_73 : decode cX10_walks 73 = .ok (.getfield 57, 3) := by decide +kernel
theorem dX10_walks_76 : decode cX10_walks 76 = .ok (.aload_n 0, 1) := by decide +kernel
theorem dX10_walks_77 : decode cX10_walks 77 = .ok (.getfield 43, 3) := by decide +kernel
theorem dX10_walks_80 : decode cX10_walks 80 = .ok (.aload_n 0, 1) := by decide +kernel
theorem dX10_walks_81 : decode cX10_walks 81 = .ok (.getfield 26, 3) := by decide +kernel
theorem dX10_walks_84 : decode cX10_walks 84 = .ok (.getfield 164, 3) := by decide +kernel
theorem dX10_walks_87 : decode cX10_walks 87 = .ok (.invokevirtual 211, 3) := by decide +kernel
theorem dX10_walks_90 : decode cX10_walks 90 = .ok (.iinc 4 1, 3) := by decide +kernel
theorem dX10_walks_93 : decode cX10_walks 93 = .ok (.goto (-31), 3) := by decide +kernel
theorem dX10_walks_96 : decode cX10_walks 96 = .ok (.iload_n 3, 1) := by decide +kernel
theorem dX10_walks_97 : decode cX10_walks 97 = .ok (.tableswitch 76 0 2 #[27, 38, 65], 27) := by decide +kernel
theorem dX10_walks_124 : decode cX10_walks 124 = .ok (.aload_n 0, 1) := by decide +kernel
theorem dX10_walks_125 : decode cX10_walks 125 = .ok (.getfield 57, 3) := by decide +kernel
theorem dX10_walks_128 : decode cX10_walks 128 = .ok (.getfield 190, 3) := by decide +kernel
theorem dX10_walks_131 : decode cX10_walks 131 = .ok (.invokestatic 206, 3) := by decide +kernel
theorem dX10_walks_134 : decode cX10_walks 134 = .ok (.ireturn, 1) := by decide +kernel
theorem dX10_walks_135 : decode cX10_walks 135 = .ok (.aload_n 0, 1) := by decide +kernel
theorem dX10_walks_136 : decode cX10_walks 136 = .ok (.getfield 43, 3) := by decide +kernel
theorem dX10_walks_139 : decode cX10_walks 139 = .ok (.iconst 0, 1) := by decide +kernel
theorem dX10_walks_140 : decode cX10_walks 140 = .ok (.invokevirtual 187, 3) := by decide +kernel
theorem dX10_walks_143 : decode cX10_walks 143 = .ok (.ifCond .eq 17, 3) := by decide +kernel
theorem dX10_walks_146 : decode cX10_walks 146 = .ok (.aload_n 0, 1) := by decide +kernel
theorem dX10_walks_147 : decode cX10_walks 147 = .ok (.getfield 57, 3) := by decide +kernel
theorem dX10_walks_150 : decode cX10_walks 150 = .ok (.getfield 184, 3) := by decide +kernel
theorem dX10_walks_153 : decode cX10_walks 153 = .ok (.iconst 0, 1) := by decide +kernel
theorem dX10_walks_154 : decode cX10_walks 154 = .ok (.invokevirtual 128, 3) := by decide +kernel
theorem dX10_walks_157 : decode cX10_walks 157 = .ok (.goto 4, 3) := by decide +kernel
theorem dX10_walks_160 : decode cX10_walks 160 = .ok (.iconst (-1), 1) := by decide +kernel
theorem dX10_walks_161 : decode cX10_walks 161 = .ok (.ireturn, 1) := by decide +kernel
theorem dX10_walks_162 : decode cX10_walks 162 = .ok (.aload_n 0, 1) := by decide +kernel
theorem dX10_walks_163 : decode cX10_walks 163 = .ok (.getfield 57, 3) := by decide +kernel
theorem dX10_walks_166 : decode cX10_walks 166 = .ok (.getfield 167, 3) := by decide +kernel
theorem dX10_walks_169 : decode cX10_walks 169 = .ok (.invokevirtual 268, 3) := by decide +kernel
theorem dX10_walks_172 : decode cX10_walks 172 = .ok (.ireturn, 1) := by decide +kernel
theorem dX10_walks_173 : decode cX10_walks 173 = .ok (.aload_n 0, 1) := by decide +kernel
theorem dX10_walks_174 : decode cX10_walks 174 = .ok (.getfield 63, 3) := by decide +kernel
theorem dX10_walks_177 : decode cX10_walks 177 = .ok (.getfield 262, 3) := by decide +kernel
theorem dX10_walks_180 : decode cX10_walks 180 = .ok (.ireturn, 1) := by decide +kernel
set_option maxRecDepth 20000 in
theorem ggX10_count_J6_bitCount_0f7a4 : GoodIn wsX10_count wsJ6_bitCount_0f7a4 := goodIn_r _ [17, 18, 19, 20] (by decide +kernel) (by decide +kernel)
set_option maxRecDepth 20000 in
theorem gX10_count_J6_bitCount_0f7a4 : GoodIn wsX10_count (va_wsS RX10 206 yJ6_bitCount_0f7a4 wsJ6_bitCount_0f7a4) := goodIn_app (goodIn_of _ (by decide +kernel)) ggX10_count_J6_bitCount_0f7a4
theorem dX10_count_0 : decode cX10_count 0 = .ok (.iload_n 1, 1) := by decide +kernel
theorem dX10_count_1 : decode cX10_count 1 = .ok (.tableswitch 131 0 8 #[51, 59, 70, 81, 89, 105, 113, 121, 126], 51) := by decide +kernel
theorem dX10_count_52 : decode cX10_count 52 = .ok (.aload_n 0, 1) := by decide +kernel
theorem dX10_count_53 : decode cX10_count 53 = .ok (.getfield 19, 3) := by decide +kernel
theorem dX10_count_56 : decode cX10_count 56 = .ok (.getfield 117, 3) := by decide +kernel
theorem dX10_count_59 : decode cX10_count 59 = .ok (.ireturn, 1) := by decide +kernel
theorem dX10_count_60 : decode cX10_count 60 = .ok (.aload_n 0, 1) := by decide +kernel
theorem dX10_count_61 : decode cX10_count 61 = .ok (.getfield 19, 3) := by decide +kernel
theorem dX10_count_64 : decode cX10_count 64 = .ok (.getfield 139, 3) := by decide +kernel
theorem dX10_count_67 : decode cX10_count 67 = .ok (.invokestatic 206, 3) := by decide +kernel
theorem dX10_count_70 : decode cX10_count 70 = .ok (.ireturn, 1) := by decide +kernel
theorem dX10_count_71 : decode cX10_count 71 = .ok (.aload_n 0, 1) := by decide +kernel
theorem dX10_count_72 : decode cX10_count 72 = .ok (.getfield 19, 3) := by decide +kernel
theorem dX10_count_75 : decode cX10_count 75 = .ok (.getfield 277, 3) := by decide +kernel
theorem dX10_count_78 : decode cX10_count 78 = .ok (.invokestatic 206, 3) := by decide +kernel
theorem dX10_count_81 : decode cX10_count 81 = .ok (.ireturn, 1) := by decide +kernel
theorem dX10_count_82 : decode cX10_count 82 = .ok (.aload_n 0, 1) := by decide +kernel
theorem dX10_count_83 : decode cX10_count 83 = .ok (.getfield 43, 3) := by decide +kernel
theorem dX10_count_86 : decode cX10_count 86 = .ok (.getfield 101, 3) := by decide +kernel
theorem dX10_count_89 : decode cX10_count 89 = .ok (.ireturn, 1) := by decide +kernel
theorem dX10_count_90 : decode cX10_count 90 = .ok (.aload_n 0, 1) := by decide +kernel
theorem dX10_count_91 : decode cX10_count 91 = .ok (.getfield 50, 3) := by decide +kernel
theorem dX10_count_94 : decode cX10_count 94 = .ok (.getfield 170, 3) := by decide +kernel
theorem dX10_count_97 : decode cX10_count 97 = .ok (.ifCond .eq 7, 3) := by decide +kernel
theorem dX10_count_100 : decode cX10_count 100 = .ok (.iconst 1, 1) := by decide +kernel
theorem dX10_count_101 : decode cX10_count 101 = .ok (.goto 4, 3) := by decide +kernel
theorem dX10_count_104 : decode cX10_count 104 = .ok (.iconst 0, 1) := by decide +kernel
theorem dX10_count_105 : decode cX10_count 105 = .ok (.ireturn, 1) := by decide +kernel
theorem dX10_count_106 : decode cX10_count 106 = .ok (.aload_n 0, 1) := by decide +kernel
theorem dX10_count_107 : decode cX10_count 107 = .ok (.getfield 50, 3) := by decide +kernel
theorem dX10_count_110 : decode cX10_count 110 = .ok (.getfield 274, 3) := by decide +kernel
theorem dX10_count_113 : decode cX10_count 113 = .ok (.ireturn, 1) := by decide +kernel
theorem dX10_count_114 : decode cX10_count 114 = .ok (.aload_n 0, 1) := by decide +kernel
theorem dX10_count_115 : decode cX10_count 115 = .ok (.getfield 10, 3) := by decide +kernel
theorem dX10_count_118 : decode cX10_count 118 = .ok (.getfield 82, 3) := by decide +kernel
theorem dX10_count_121 : decode cX10_count 121 = .ok (.ireturn, 1) := by decide +kernel
theorem dX10_count_122 : decode cX10_count 122 = .ok (.aload_n 0, 1) := by decide +kernel
theorem dX10_count_123 : decode cX10_count 123 = .ok (.getfield 111, 3) := by decide +kernel
theorem dX10_count_126 : decode cX10_count 126 = .ok (.ireturn, 1) := by decide +kernel
theorem dX10_count_127 : decode cX10_count 127 = .ok (.aload_n 0, 1) := by decide +kernel
theorem dX10_count_128 : decode cX10_count 128 = .ok (.getfield 221, 3) := by decide +kernel
theorem dX10_count_131 : decode cX10_count 131 = .ok (.ireturn, 1) := by decide +kernel
theorem dX10_count_132 : decode cX10_count 132 = .ok (.bipush (-102), 2) := by decide +kernel
theorem dX10_count_134 : decode cX10_count 134 = .ok (.ireturn, 1) := by decide +kernel
theorem dX10_isKnot_0 : decode cX10_isKnot 0 = .ok (.iload_n 0, 1) := by decide +kernel
theorem dX10_isKnot_1 : decode cX10_isKnot 1 = .ok (.ifCond .lt 13, 3) := by decide +kernel
theorem dX10_isKnot_4 : decode cX10_isKnot 4 = .ok (.iload_n 0, 1) := by decide +kernel
theorem dX10_isKnot_5 : decode cX10_isKnot 5 = .ok (.bipush 7, 2) := by decide +kernel
theorem dX10_isKnot_7 : decode cX10_isKnot 7 = .ok (.if_icmp .ge 7, 3) := by decide +kernel
theorem dX10_isKnot_10 : decode cX10_isKnot 10 = .ok (.iconst 1, 1) := by decide +kernel
theorem dX10_isKnot_11 : decode cX10_isKnot 11 = .ok (.goto 4, 3) := by decide +kernel
theorem dX10_isKnot_14 : decode cX10_isKnot 14 = .ok (.iconst 0, 1) := by decide +kernel
theorem dX10_isKnot_15 : decode cX10_isKnot 15 = .ok (.ireturn, 1) := by decide +kernel
theorem dX10_bit_0 : decode cX10_bit 0 = .ok (.iload_n 0, 1) := by decide +kernel
theorem dX10_bit_1 : decode cX10_bit 1 = .ok (.iload_n 1, 1) := by decide +kernel
theorem dX10_bit_2 : decode cX10_bit 2 = .ok (.ishr, 1) := by decide +kernel
theorem dX10_bit_3 : decode cX10_bit 3 = .ok (.iconst 1, 1) := by decide +kernel
theorem dX10_bit_4 : decode cX10_bit 4 = .ok (.iand, 1) := by decide +kernel
theorem dX10_bit_5 : decode cX10_bit 5 = .ok (.ireturn, 1) := by decide +kernel
set_option maxRecDepth 20000 in
theorem ggX10_windChanges_X0_blow : GoodIn wsX10_windChanges wsX0_blow := goodIn_r _ [11, 12, 13, 14, 15, 16, 10, 17, 18, 19, 20, 21, 22, 23, 24, 25, 26, 27, 28, 29, 30, 31, 32, 33, 34, 35, 36, 37, 38, 39, 40, 41, 42, 43, 44, 45, 46, 47, 48, 49, 50, 51, 52, 53, 54, 55, 56, 57, 58, 59, 60, 61, 62, 63, 64, 65, 123, 124, 125, 126, 127, 128, 129, 130, 131, 132, 133, 134] (by decide +kernel) (by decide +kernel)
set_option maxRecDepth 20000 in
theorem gX10_windChanges_X0_blow : GoodIn wsX10_windChanges (wsV RX10 305 RX0 yX0_blow wsX0_blow) := goodIn_app (goodIn_of _ (by decide +kernel)) ggX10_windChanges_X0_blow
set_option maxRecDepth 20000 in
theorem ggX10_windChanges_X0_carrySmoke : GoodIn wsX10_windChanges wsX0_carrySmoke := goodIn_r _ [69, 19, 61, 70, 71, 72, 73, 74, 75, 76, 77, 78, 79, 25, 80, 27, 81, 23, 24, 26, 31, 32, 33, 34, 82, 83, 84, 52, 85, 86, 87, 55, 88, 89, 90, 91, 92, 93, 94, 95, 96, 97, 98, 99, 100, 101, 127, 128, 129, 130, 131, 132, 133, 123, 124, 125, 126, 135, 134] (by decide +kernel) (by decide +kernel)
set_option maxRecDepth 20000 in
theorem gX10_windChanges_X0_carrySmoke : GoodIn wsX10_windChanges (wsV RX10 309 RX0 yX0_carrySmoke wsX0_carrySmoke) := goodIn_app (goodIn_of _ (by decide +kernel)) ggX10_windChanges_X0_carrySmoke
theorem dX10_windChanges_0 : decode cX10_windChanges 0 = .ok (.aload_n 0, 1) := by decide +kernel
theorem dX10_windChanges_1 : decode cX10_windChanges 1 = .ok (.getfield 26, 3) := by decide +kernel
theorem dX10_windChanges_4 : decode cX10_windChanges 4 = .ok (.aload_n 0, 1) := by decide +kernel
theorem dX10_windChanges_5 : decode cX10_windChanges 5 = .ok (.getfield 19, 3) := by decide +kernel
theorem dX10_windChanges_8 : decode cX10_windChanges 8 = .ok (.aload_n 0, 1) := by decide +kernel
theorem dX10_windChanges_9 : decode cX10_windChanges 9 = .ok (.getfield 50, 3) := by decide +kernel
theorem dX10_windChanges_12 : decode cX10_windChanges 12 = .ok (.getfield 146, 3) := by decide +kernel
theorem dX10_windChanges_15 : decode cX10_windChanges 15 = .ok (.aload_n 0, 1) := by decide +kernel
theorem dX10_windChanges_16 : decode cX10_windChanges 16 = .ok (.getfield 50, 3) := by decide +kernel
theorem dX10_windChanges_19 : decode cX10_windChanges 19 = .ok (.getfield 170, 3) := by decide +kernel
theorem dX10_windChanges_22 : decode cX10_windChanges 22 = .ok (.invokevirtual 305, 3) := by decide +kernel
theorem dX10_windChanges_25 : decode cX10_windChanges 25 = .ok (.aload_n 0, 1) := by decide +kernel
theorem dX10_windChanges_26 : decode cX10_windChanges 26 = .ok (.getfield 26, 3) := by decide +kernel
theorem dX10_windChanges_29 : decode cX10_windChanges 29 = .ok (.aload_n 0, 1) := by decide +kernel
theorem dX10_windChanges_30 : decode cX10_windChanges 30 = .ok (.getfield 19, 3) := by decide +kernel
theorem dX10_windChanges_33 : decode cX10_windChanges 33 = .ok (.aload_n 0, 1) := by decide +kernel
theorem dX10_windChanges_34 : decode cX10_windChanges 34 = .ok (.getfield 36, 3) := by decide +kernel
theorem dX10_windChanges_37 : decode cX10_windChanges 37 = .ok (.invokevirtual 309, 3) := by decide +kernel
theorem dX10_windChanges_40 : decode cX10_windChanges 40 = .ok (.return_, 1) := by decide +kernel
set_option maxRecDepth 20000 in
theorem ggX10_dreamWalk_X2_draw : GoodIn wsX10_dreamWalk wsX2_draw := goodIn_r _ [13, 14, 15, 16, 17, 18, 87] (by decide +kernel) (by decide +kernel)
set_option maxRecDepth 20000 in
theorem gX10_dreamWalk_X2_draw : GoodIn wsX10_dreamWalk (wsV RX10 319 RX2 yX2_draw wsX2_draw) := goodIn_app (goodIn_of _ (by decide +kernel)) ggX10_dreamWalk_X2_draw
set_option maxRecDepth 20000 in
theorem ggX10_dreamWalk_X10_bit : GoodIn wsX10_dreamWalk wsX10_bit := goodIn_r _ [22] (by decide +kernel) (by decide +kernel)
set_option maxRecDepth 20000 in
theorem gX10_dreamWalk_X10_bit : GoodIn wsX10_dreamWalk (va_wsS RX10 142 yX10_bit wsX10_bit) := goodIn_app (goodIn_of _ (by decide +kernel)) ggX10_dreamWalk_X10_bit
set_option maxRecDepth 20000 in
theorem ggX10_dreamWalk_X8_get : GoodIn wsX10_dreamWalk wsX8_get := goodIn_r _ [27, 28, 88] (by decide +kernel) (by decide +kernel)
set_option maxRecDepth 20000 in
theorem gX10_dreamWalk_X8_get : GoodIn wsX10_dreamWalk (wsV RX10 128 RX8 yX8_get wsX8_get) := goodIn_app (goodIn_of _ (by decide +kernel)) ggX10_dreamWalk_X8_get
set_option maxRecDepth 20000 in
theorem ggX10_dreamWalk_X5_galleriesAt : GoodIn wsX10_dreamWalk wsX5_galleriesAt := goodIn_r _ [33, 34, 35, 36, 37, 32, 38, 39, 40, 41, 24, 25, 26, 27, 28, 89, 90, 91, 92, 93, 94, 95, 88] (by decide +kernel) (by decide +kernel)
set_option maxRecDepth 20000 in
theorem gX10_dreamWalk_X5_galleriesAt : GoodIn wsX10_dreamWalk (wsV RX10 322 RX5 yX5_galleriesAt wsX5_galleriesAt) := goodIn_app (goodIn_of _ (by decide +kernel)) ggX10_dreamWalk_X5_galleriesAt
set_option maxRecDepth 20000 in
theorem ggX10_dreamWalk_J6_bitCount_0f7a4 : GoodIn wsX10_dreamWalk wsJ6_bitCount_0f7a4 := goodIn_r _ [45, 46, 47, 48] (by decide +kernel) (by decide +kernel)
set_option maxRecDepth 20000 in
theorem gX10_dreamWalk_J6_bitCount_0f7a4 : GoodIn wsX10_dreamWalk (va_wsS RX10 206 yJ6_bitCount_0f7a4 wsJ6_bitCount_0f7a4) := goodIn_app (goodIn_of _ (by decide +kernel)) ggX10_dreamWalk_J6_bitCount_0f7a4
set_option maxRecDepth 20000 in
theorem ggX10_dreamWalk_X10_placeOfBit : GoodIn wsX10_dreamWalk wsX10_placeOfBit := goodIn_r _ [51, 52, 53, 44, 54, 55] (by decide +kernel) (by decide +kernel)
set_option maxRecDepth 20000 in
theorem gX10_dreamWalk_X10_placeOfBit : GoodIn wsX10_dreamWalk (va_wsS RX10 325 yX10_placeOfBit wsX10_placeOfBit) := goodIn_app (goodIn_of _ (by decide +kernel)) ggX10_dreamWalk_X10_placeOfBit
set_option maxRecDepth 20000 in
theorem ggX10_dreamWalk_X5_otherEnd : GoodIn wsX10_dreamWalk wsX5_otherEnd := goodIn_r _ [59, 39, 40, 41, 24, 25, 26, 27, 28, 89, 90, 91, 92, 93, 94, 95, 88] (by decide +kernel) (by decide +kernel)
set_option maxRecDepth 20000 in
theorem gX10_dreamWalk_X5_otherEnd : GoodIn wsX10_dreamWalk (wsV RX10 203 RX5 yX5_otherEnd wsX5_otherEnd) := goodIn_app (goodIn_of _ (by decide +kernel)) ggX10_dreamWalk_X5_otherEnd
set_option maxRecDepth 20000 in
theorem ggX10_dreamWalk_X8_set : GoodIn wsX10_dreamWalk wsX8_set := goodIn_r _ [63, 28, 88] (by decide +kernel) (by decide +kernel)
set_option maxRecDepth 20000 in
theorem gX10_dreamWalk_X8_set : GoodIn wsX10_dreamWalk (wsV RX10 180 RX8 yX8_set wsX8_set) := goodIn_app (goodIn_of _ (by decide +kernel)) ggX10_dreamWalk_X8_set
theorem dX10_dreamWalk_0 : decode cX10_dreamWalk 0 = .ok (.aload_n 0, 1) := by decide +kernel
theorem dX10_dreamWalk_1 : decode cX10_dreamWalk 1 = .ok (.getfield 43, 3) := by decide +kernel
theorem dX10_dreamWalk_4 : decode cX10_dreamWalk 4 = .ok (.getfield 101, 3) := by decide +kernel
theorem dX10_dreamWalk_7 : decode cX10_dreamWalk 7 = .ok (.ifCond .ne 4, 3) := by decide +kernel
theorem dX10_dreamWalk_10 : decode cX10_dreamWalk 10 = .ok (.return_, 1) := by decide +kernel
theorem dX10_dreamWalk_11 : decode cX10_dreamWalk 11 = .ok (.aload_n 0, 1) := by decide +kernel
theorem dX10_dreamWalk_12 : decode cX10_dreamWalk 12 = .ok (.getfield 63, 3) := by decide +kernel
theorem dX10_dreamWalk_15 : decode cX10_dreamWalk 15 = .ok (.aload_n 0, 1) := by decide +kernel
theorem dX10_dreamWalk_16 : decode cX10_dreamWalk 16 = .ok (.getfield 43, 3) := by decide +kernel
theorem dX10_dreamWalk_19 : decode cX10_dreamWalk 19 = .ok (.getfield 101, 3) := by decide +kernel
theorem dX10_dreamWalk_22 : decode cX10_dreamWalk 22 = .ok (.invokevirtual 319, 3) := by decide +kernel
theorem dX10_dreamWalk_25 : decode cX10_dreamWalk 25 = .ok (.istore_n 1, 1) := by decide +kernel
theorem dX10_dreamWalk_26 : decode cX10_dreamWalk 26 = .ok (.aload_n 0, 1) := by decide +kernel
theorem dX10_dreamWalk_27 : decode cX10_dreamWalk 27 = .ok (.getfield 57, 3) := by decide +kernel
theorem dX10_dreamWalk_30 : decode cX10_dreamWalk 30 = .ok (.getfield 190, 3) := by decide +kernel
theorem dX10_dreamWalk_33 : decode cX10_dreamWalk 33 = .ok (.iload_n 1, 1) := by decide +kernel
theorem dX10_dreamWalk_34 : decode cX10_dreamWalk 34 = .ok (.invokestatic 142, 3) := by decide +kernel
theorem dX10_dreamWalk_37 : decode cX10_dreamWalk 37 = .ok (.iconst 1, 1) := by decide +kernel
theorem dX10_dreamWalk_38 : decode cX10_dreamWalk 38 = .ok (.if_icmp .ne 4, 3) := by decide +kernel
theorem dX10_dreamWalk_41 : decode cX10_dreamWalk 41 = .ok (.return_, 1) := by decide +kernel
theorem dX10_dreamWalk_42 : decode cX10_dreamWalk 42 = .ok (.aload_n 0, 1) := by decide +kernel
theorem dX10_dreamWalk_43 : decode cX10_dreamWalk 43 = .ok (.getfield 57, 3) := by decide +kernel
theorem dX10_dreamWalk_46 : decode cX10_dreamWalk 46 = .ok (.getfield 184, 3) := by decide +kernel
theorem dX10_dreamWalk_49 : decode cX10_dreamWalk 49 = .ok (.iload_n 1, 1) := by decide +kernel
theorem dX10_dreamWalk_50 : decode cX10_dreamWalk 50 = .ok (.invokevirtual 128, 3) := by decide +kernel
theorem dX10_dreamWalk_53 : decode cX10_dreamWalk 53 = .ok (.istore_n 2, 1) := by decide +kernel
theorem dX10_dreamWalk_54 : decode cX10_dreamWalk 54 = .ok (.aload_n 0, 1) := by decide +kernel
theorem dX10_dreamWalk_55 : decode cX10_dreamWalk 55 = .ok (.getfield 19, 3) := by decide +kernel
theorem dX10_dreamWalk_58 : decode cX10_dreamWalk 58 = .ok (.iload_n 2, 1) := by decide +kernel
theorem dX10_dreamWalk_59 : decode cX10_dreamWalk 59 = .ok (.aload_n 0, 1) := by decide +kernel
theorem dX10_dreamWalk_60 : decode cX10_dreamWalk 60 = .ok (.getfield 57, 3) := by decide +kernel
theorem dX10_dreamWalk_63 : decode cX10_dreamWalk 63 = .ok (.getfield 146, 3) := by decide +kernel
theorem dX10_dreamWalk_66 : decode cX10_dreamWalk 66 = .ok (.invokevirtual 322, 3) := by decide +kernel
theorem dX10_dreamWalk_69 : decode cX10_dreamWalk 69 = .ok (.istore_n 3, 1) := by decide +kernel
theorem dX10_dreamWalk_70 : decode cX10_dreamWalk 70 = .ok (.iload_n 3, 1) := by decide +kernel
theorem dX10_dreamWalk_71 : decode cX10_dreamWalk 71 = .ok (.ifCond .ne 4, 3) := by decide +kernel
theorem dX10_dreamWalk_74 : decode cX10_dreamWalk 74 = .ok (.return_, 1) := by decide +kernel
theorem dX10_dreamWalk_75 : decode cX10_dreamWalk 75 = .ok (.iload_n 3, 1) := by decide +kernel
theorem dX10_dreamWalk_76 : decode cX10_dreamWalk 76 = .ok (.aload_n 0, 1) := by decide +kernel
theorem dX10_dreamWalk_77 : decode cX10_dreamWalk 77 = .ok (.getfield 63, 3) := by decide +kernel
theorem dX10_dreamWalk_80 : decode cX10_dreamWalk 80 = .ok (.iload_n 3, 1) := by decide +kernel
theorem dX10_dreamWalk_81 : decode cX10_dreamWalk 81 = .ok (.invokestatic 206, 3) := by decide +kernel
theorem dX10_dreamWalk_84 : decode cX10_dreamWalk 84 = .ok (.invokevirtual 319, 3) := by decide +kernel
theorem dX10_dreamWalk_87 : decode cX10_dreamWalk 87 = .ok (.invokestatic 325, 3) := by decide +kernel
theorem dX10_dreamWalk_90 : decode cX10_dreamWalk 90 = .ok (.istore 4, 2) := by decide +kernel
theorem dX10_dreamWalk_92 : decode cX10_dreamWalk 92 = .ok (.aload_n 0, 1) := by decide +kernel
theorem dX10_dreamWalk_93 : decode cX10_dreamWalk 93 = .ok (.getfield 57, 3) := by decide +kernel
theorem dX10_dreamWalk_96 : decode cX10_dreamWalk 96 = .ok (.getfield 184, 3) := by decide +kernel
theorem dX10_dreamWalk_99 : decode cX10_dreamWalk 99 = .ok (.iload_n 1, 1) := by decide +kernel
theorem dX10_dreamWalk_100 : decode cX10_dreamWalk 100 = .ok (.aload_n 0, 1) := by decide +kernel
theorem dX10_dreamWalk_101 : decode cX10_dreamWalk 101 = .ok (.getfield 19, 3) := by decide +kernel
theorem dX10_dreamWalk_104 : decode cX10_dreamWalk 104 = .ok (.iload 4, 2) := by decide +kernel
theorem dX10_dreamWalk_106 : decode cX10_dreamWalk 106 = .ok (.iload_n 2, 1) := by decide +kernel
theorem dX10_dreamWalk_107 : decode cX10_dreamWalk 107 = .ok (.invokevirtual 203, 3) := by decide +kernel
theorem dX10_dreamWalk_110 : decode cX10_dreamWalk 110 = .ok (.invokevirtual 180, 3) := by decide +kernel
theorem dX10_dreamWalk_113 : decode cX10_dreamWalk 113 = .ok (.return_, 1) := by decide +kernel
set_option maxRecDepth 20000 in
theorem ggX10_placeOfBit_J6_numberOfTrailingZeros_0f7a4 : GoodIn wsX10_placeOfBit wsJ6_numberOfTrailingZeros_0f7a4 := goodIn_r _ [4, 5] (by decide +kernel) (by decide +kernel)
set_option maxRecDepth 20000 in
theorem gX10_placeOfBit_J6_numberOfTrailingZeros_0f7a4 : GoodIn wsX10_placeOfBit (va_wsS RX10 328 yJ6_numberOfTrailingZeros_0f7a4 wsJ6_numberOfTrailingZeros_0f7a4) := goodIn_app (goodIn_of _ (by decide +kernel)) ggX10_placeOfBit_J6_numberOfTrailingZeros_0f7a4
theorem dX10_placeOfBit_0 : decode cX10_placeOfBit 0 = .ok (.iload_n 0, 1) := by decide +kernel
theorem dX10_placeOfBit_1 : decode cX10_placeOfBit 1 = .ok (.istore_n 2, 1) := by decide +kernel
theorem dX10_placeOfBit_2 : decode cX10_placeOfBit 2 = .ok (.iconst 0, 1) := by decide +kernel
theorem dX10_placeOfBit_3 : decode cX10_placeOfBit 3 = .ok (.istore_n 3, 1) := by decide +kernel
theorem dX10_placeOfBit_4 : decode cX10_placeOfBit 4 = .ok (.iload_n 3, 1) := by decide +kernel
theorem dX10_placeOfBit_5 : decode cX10_placeOfBit 5 = .ok (.iload_n 1, 1) := by decide +kernel
theorem dX10_placeOfBit_6 : decode cX10_placeOfBit 6 = .ok (.if_icmp .ge 15, 3) := by decide +kernel
theorem dX10_placeOfBit_9 : decode cX10_placeOfBit 9 = .ok (.iload_n 2, 1) := by decide +kernel
theorem dX10_placeOfBit_10 : decode cX10_placeOfBit 10 = .ok (.iload_n 2, 1) := by decide +kernel
theorem dX10_placeOfBit_11 : decode cX10_placeOfBit 11 = .ok (.iconst 1, 1) := by decide +kernel
theorem dX10_placeOfBit_12 : decode cX10_placeOfBit 12 = .ok (.isub, 1) := by decide +kernel
theorem dX10_placeOfBit_13 : decode cX10_placeOfBit 13 = .ok (.iand, 1) := by decide +kernel
theorem dX10_placeOfBit_14 : decode cX10_placeOfBit 14 = .ok (.istore_n 2, 1) := by decide +kernel
theorem dX10_placeOfBit_15 : decode cX10_placeOfBit 15 = .ok (.iinc 3 1, 3) := by decide +kernel
theorem dX10_placeOfBit_18 : decode cX10_placeOfBit 18 = .ok (.goto (-14), 3) := by decide +kernel
theorem dX10_placeOfBit_21 : decode cX10_placeOfBit 21 = .ok (.iload_n 2, 1) := by decide +kernel
theorem dX10_placeOfBit_22 : decode cX10_placeOfBit 22 = .ok (.invokestatic 328, 3) := by decide +kernel
theorem dX10_placeOfBit_25 : decode cX10_placeOfBit 25 = .ok (.ireturn, 1) := by decide +kernel
theorem dJ6_numberOfTrailingZeros_0f7a4_0 : decode cJ6_numberOfTrailingZeros_0f7a4 0 = .ok (.iload_n 0, 1) := by decide +kernel
theorem dJ6_numberOfTrailingZeros_0f7a4_1 : decode cJ6_numberOfTrailingZeros_0f7a4 1 = .ok (.iconst (-1), 1) := by decide +kernel
theorem dJ6_numberOfTrailingZeros_0f7a4_2 : decode cJ6_numberOfTrailingZeros_0f7a4 2 = .ok (.ixor, 1) := by decide +kernel
theorem dJ6_numberOfTrailingZeros_0f7a4_3 : decode cJ6_numberOfTrailingZeros_0f7a4 3 = .ok (.iload_n 0, 1) := by decide +kernel
theorem dJ6_numberOfTrailingZeros_0f7a4_4 : decode cJ6_numberOfTrailingZeros_0f7a4 4 = .ok (.iconst 1, 1) := by decide +kernel
theorem dJ6_numberOfTrailingZeros_0f7a4_5 : decode cJ6_numberOfTrailingZeros_0f7a4 5 = .ok (.isub, 1) := by decide +kernel
theorem dJ6_numberOfTrailingZeros_0f7a4_6 : decode cJ6_numberOfTrailingZeros_0f7a4 6 = .ok (.iand, 1) := by decide +kernel
theorem dJ6_numberOfTrailingZeros_0f7a4_7 : decode cJ6_numberOfTrailingZeros_0f7a4 7 = .ok (.istore_n 0, 1) := by decide +kernel
theorem dJ6_numberOfTrailingZeros_0f7a4_8 : decode cJ6_numberOfTrailingZeros_0f7a4 8 = .ok (.iload_n 0, 1) := by decide +kernel
theorem dJ6_numberOfTrailingZeros_0f7a4_9 : decode cJ6_numberOfTrailingZeros_0f7a4 9 = .ok (.ifCond .gt 8, 3) := by decide +kernel
theorem dJ6_numberOfTrailingZeros_0f7a4_12 : decode cJ6_numberOfTrailingZeros_0f7a4 12 = .ok (.iload_n 0, 1) := by decide +kernel
theorem dJ6_numberOfTrailingZeros_0f7a4_13 : decode cJ6_numberOfTrailingZeros_0f7a4 13 = .ok (.bipush 32, 2) := by decide +kernel
theorem dJ6_numberOfTrailingZeros_0f7a4_15 : decode cJ6_numberOfTrailingZeros_0f7a4 15 = .ok (.iand, 1) := by decide +kernel
theorem dJ6_numberOfTrailingZeros_0f7a4_16 : decode cJ6_numberOfTrailingZeros_0f7a4 16 = .ok (.ireturn, 1) := by decide +kernel
theorem dJ6_numberOfTrailingZeros_0f7a4_17 : decode cJ6_numberOfTrailingZeros_0f7a4 17 = .ok (.iconst 1, 1) := by decide +kernel
theorem dJ6_numberOfTrailingZeros_0f7a4_18 : decode cJ6_numberOfTrailingZeros_0f7a4 18 = .ok (.istore_n 1, 1) := by decide +kernel
theorem dJ6_numberOfTrailingZeros_0f7a4_19 : decode cJ6_numberOfTrailingZeros_0f7a4 19 = .ok (.iload_n 0, 1) := by decide +kernel
theorem dJ6_numberOfTrailingZeros_0f7a4_20 : decode cJ6_numberOfTrailingZeros_0f7a4 20 = .ok (.ldc_w 264, 3) := by decide +kernel
theorem dJ6_numberOfTrailingZeros_0f7a4_23 : decode cJ6_numberOfTrailingZeros_0f7a4 23 = .ok (.if_icmp .le 11, 3) := by decide +kernel
theorem dJ6_numberOfTrailingZeros_0f7a4_26 : decode cJ6_numberOfTrailingZeros_0f7a4 26 = .ok (.iinc 1 16, 3) := by decide +kernel
theorem dJ6_numberOfTrailingZeros_0f7a4_29 : decode cJ6_numberOfTrailingZeros_0f7a4 29 = .ok (.iload_n 0, 1) := by decide +kernel
theorem dJ6_numberOfTrailingZeros_0f7a4_30 : decode cJ6_numberOfTrailingZeros_0f7a4 30 = .ok (.bipush 16, 2) := by decide +kernel
theorem dJ6_numberOfTrailingZeros_0f7a4_32 : decode cJ6_numberOfTrailingZeros_0f7a4 32 = .ok (.iushr, 1) := by decide +kernel
theorem dJ6_numberOfTrailingZeros_0f7a4_33 : decode cJ6_numberOfTrailingZeros_0f7a4 33 = .ok (.istore_n 0, 1) := by decide +kernel
theorem dJ6_numberOfTrailingZeros_0f7a4_34 : decode cJ6_numberOfTrailingZeros_0f7a4 34 = .ok (.iload_n 0, 1) := by decide +kernel
theorem dJ6_numberOfTrailingZeros_0f7a4_35 : decode cJ6_numberOfTrailingZeros_0f7a4 35 = .ok (.sipush 256, 3) := by decide +kernel
theorem dJ6_numberOfTrailingZeros_0f7a4_38 : decode cJ6_numberOfTrailingZeros_0f7a4 38 = .ok (.if_icmp .le 11, 3) := by decide +kernel
theorem dJ6_numberOfTrailingZeros_0f7a4_41 : decode cJ6_numberOfTrailingZeros_0f7a4 41 = .ok (.iinc 1 8, 3) := by decide +kernel
theorem dJ6_numberOfTrailingZeros_0f7a4_44 : decode cJ6_numberOfTrailingZeros_0f7a4 44 = .ok (.iload_n 0, 1) := by decide +kernel
theorem dJ6_numberOfTrailingZeros_0f7a4_45 : decode cJ6_numberOfTrailingZeros_0f7a4 45 = .ok (.bipush 8, 2) := by decide +kernel
theorem dJ6_numberOfTrailingZeros_0f7a4_47 : decode cJ6_numberOfTrailingZeros_0f7a4 47 = .ok (.iushr, 1) := by decide +kernel
theorem dJ6_numberOfTrailingZeros_0f7a4_48 : decode cJ6_numberOfTrailingZeros_0f7a4 48 = .ok (.istore_n 0, 1) := by decide +kernel
theorem dJ6_numberOfTrailingZeros_0f7a4_49 : decode cJ6_numberOfTrailingZeros_0f7a4 49 = .ok (.iload_n 0, 1) := by decide +kernel
theorem dJ6_numberOfTrailingZeros_0f7a4_50 : decode cJ6_numberOfTrailingZeros_0f7a4 50 = .ok (.bipush 16, 2) := by decide +kernel
theorem dJ6_numberOfTrailingZeros_0f7a4_52 : decode cJ6_numberOfTrailingZeros_0f7a4 52 = .ok (.if_icmp .le 10, 3) := by decide +kernel
theorem dJ6_numberOfTrailingZeros_0f7a4_55 : decode cJ6_numberOfTrailingZeros_0f7a4 55 = .ok (.iinc 1 4, 3) := by decide +kernel
theorem dJ6_numberOfTrailingZeros_0f7a4_58 : decode cJ6_numberOfTrailingZeros_0f7a4 58 = .ok (.iload_n 0, 1) := by decide +kernel
theorem dJ6_numberOfTrailingZeros_0f7a4_59 : decode cJ6_numberOfTrailingZeros_0f7a4 59 = .ok (.iconst 4, 1) := by decide +kernel
theorem dJ6_numberOfTrailingZeros_0f7a4_60 : decode cJ6_numberOfTrailingZeros_0f7a4 60 = .ok (.iushr, 1) := by decide +kernel
theorem dJ6_numberOfTrailingZeros_0f7a4_61 : decode cJ6_numberOfTrailingZeros_0f7a4 61 = .ok (.istore_n 0, 1) := by decide +kernel
theorem dJ6_numberOfTrailingZeros_0f7a4_62 : decode cJ6_numberOfTrailingZeros_0f7a4 62 = .ok (.iload_n 0, 1) := by decide +kernel
theorem dJ6_numberOfTrailingZeros_0f7a4_63 : decode cJ6_numberOfTrailingZeros_0f7a4 63 = .ok (.iconst 4, 1) := by decide +kernel
theorem dJ6_numberOfTrailingZeros_0f7a4_64 : decode cJ6_numberOfTrailingZeros_0f7a4 64 = .ok (.if_icmp .le 10, 3) := by decide +kernel
theorem dJ6_numberOfTrailingZeros_0f7a4_67 : decode cJ6_numberOfTrailingZeros_0f7a4 67 = .ok (.iinc 1 2, 3) := by decide +kernel
theorem dJ6_numberOfTrailingZeros_0f7a4_70 : decode cJ6_numberOfTrailingZeros_0f7a4 70 = .ok (.iload_n 0, 1) := by decide +kernel
theorem dJ6_numberOfTrailingZeros_0f7a4_71 : decode cJ6_numberOfTrailingZeros_0f7a4 71 = .ok (.iconst 2, 1) := by decide +kernel
theorem dJ6_numberOfTrailingZeros_0f7a4_72 : decode cJ6_numberOfTrailingZeros_0f7a4 72 = .ok (.iushr, 1) := by decide +kernel
theorem dJ6_numberOfTrailingZeros_0f7a4_73 : decode cJ6_numberOfTrailingZeros_0f7a4 73 = .ok (.istore_n 0, 1) := by decide +kernel
theorem dJ6_numberOfTrailingZeros_0f7a4_74 : decode cJ6_numberOfTrailingZeros_0f7a4 74 = .ok (.iload_n 1, 1) := by decide +kernel
theorem dJ6_numberOfTrailingZeros_0f7a4_75 : decode cJ6_numberOfTrailingZeros_0f7a4 75 = .ok (.iload_n 0, 1) := by decide +kernel
theorem dJ6_numberOfTrailingZeros_0f7a4_76 : decode cJ6_numberOfTrailingZeros_0f7a4 76 = .ok (.iconst 1, 1) := by decide +kernel
theorem dJ6_numberOfTrailingZeros_0f7a4_77 : decode cJ6_numberOfTrailingZeros_0f7a4 77 = .ok (.iushr, 1) := by decide +kernel
theorem dJ6_numberOfTrailingZeros_0f7a4_78 : decode cJ6_numberOfTrailingZeros_0f7a4 78 = .ok (.iadd, 1) := by decide +kernel
theorem dJ6_numberOfTrailingZeros_0f7a4_79 : decode cJ6_numberOfTrailingZeros_0f7a4 79 = .ok (.ireturn, 1) := by decide +kernel
theorem dJ6_bitCount_0f7a4_0 : decode cJ6_bitCount_0f7a4 0 = .ok (.iload_n 0, 1) := by decide +kernel
theorem dJ6_bitCount_0f7a4_1 : decode cJ6_bitCount_0f7a4 1 = .ok (.iload_n 0, 1) := by decide +kernel
theorem dJ6_bitCount_0f7a4_2 : decode cJ6_bitCount_0f7a4 2 = .ok (.iconst 1, 1) := by decide +kernel
theorem dJ6_bitCount_0f7a4_3 : decode cJ6_bitCount_0f7a4 3 = .ok (.iushr, 1) := by decide +kernel
theorem dJ6_bitCount_0f7a4_4 : decode cJ6_bitCount_0f7a4 4 = .ok (.ldc_w 265, 3) := by decide +kernel
theorem dJ6_bitCount_0f7a4_7 : decode cJ6_bitCount_0f7a4 7 = .ok (.iand, 1) := by decide +kernel
theorem dJ6_bitCount_0f7a4_8 : decode cJ6_bitCount_0f7a4 8 = .ok (.isub, 1) := by decide +kernel
theorem dJ6_bitCount_0f7a4_9 : decode cJ6_bitCount_0f7a4 9 = .ok (.istore_n 0, 1) := by decide +kernel
theorem dJ6_bitCount_0f7a4_10 : decode cJ6_bitCount_0f7a4 10 = .ok (.iload_n 0, 1) := by decide +kernel
theorem dJ6_bitCount_0f7a4_11 : decode cJ6_bitCount_0f7a4 11 = .ok (.ldc_w 266, 3) := by decide +kernel
theorem dJ6_bitCount_0f7a4_14 : decode cJ6_bitCount_0f7a4 14 = .ok (.iand, 1) := by decide +kernel
theorem dJ6_bitCount_0f7a4_15 : decode cJ6_bitCount_0f7a4 15 = .ok (.iload_n 0, 1) := by decide +kernel
theorem dJ6_bitCount_0f7a4_16 : decode cJ6_bitCount_0f7a4 16 = .ok (.iconst 2, 1) := by decide +kernel
theorem dJ6_bitCount_0f7a4_17 : decode cJ6_bitCount_0f7a4 17 = .ok (.iushr, 1) := by decide +kernel
theorem dJ6_bitCount_0f7a4_18 : decode cJ6_bitCount_0f7a4 18 = .ok (.ldc_w 266, 3) := by decide +kernel
theorem dJ6_bitCount_0f7a4_21 : decode cJ6_bitCount_0f7a4 21 = .ok (.iand, 1) := by decide +kernel
theorem dJ6_bitCount_0f7a4_22 : decode cJ6_bitCount_0f7a4 22 = .ok (.iadd, 1) := by decide +kernel
theorem dJ6_bitCount_0f7a4_23 : decode cJ6_bitCount_0f7a4 23 = .ok (.istore_n 0, 1) := by decide +kernel
theorem dJ6_bitCount_0f7a4_24 : decode cJ6_bitCount_0f7a4 24 = .ok (.iload_n 0, 1) := by decide +kernel
theorem dJ6_bitCount_0f7a4_25 : decode cJ6_bitCount_0f7a4 25 = .ok (.iload_n 0, 1) := by decide +kernel
theorem dJ6_bitCount_0f7a4_26 : decode cJ6_bitCount_0f7a4 26 = .ok (.iconst 4, 1) := by decide +kernel
theorem dJ6_bitCount_0f7a4_27 : decode cJ6_bitCount_0f7a4 27 = .ok (.iushr, 1) := by decide +kernel
theorem dJ6_bitCount_0f7a4_28 : decode cJ6_bitCount_0f7a4 28 = .ok (.iadd, 1) := by decide +kernel
theorem dJ6_bitCount_0f7a4_29 : decode cJ6_bitCount_0f7a4 29 = .ok (.ldc_w 267, 3) := by decide +kernel
theorem dJ6_bitCount_0f7a4_32 : decode cJ6_bitCount_0f7a4 32 = .ok (.iand, 1) := by decide +kernel
theorem dJ6_bitCount_0f7a4_33 : decode cJ6_bitCount_0f7a4 33 = .ok (.istore_n 0, 1) := by decide +kernel
theorem dJ6_bitCount_0f7a4_34 : decode cJ6_bitCount_0f7a4 34 = .ok (.iload_n 0, 1) := by decide +kernel
theorem dJ6_bitCount_0f7a4_35 : decode cJ6_bitCount_0f7a4 35 = .ok (.iload_n 0, 1) := by decide +kernel
theorem dJ6_bitCount_0f7a4_36 : decode cJ6_bitCount_0f7a4 36 = .ok (.bipush 8, 2) := by decide +kernel
theorem dJ6_bitCount_0f7a4_38 : decode cJ6_bitCount_0f7a4 38 = .ok (.iushr, 1) := by decide +kernel
theorem dJ6_bitCount_0f7a4_39 : decode cJ6_bitCount_0f7a4 39 = .ok (.iadd, 1) := by decide +kernel
theorem dJ6_bitCount_0f7a4_40 : decode cJ6_bitCount_0f7a4 40 = .ok (.istore_n 0, 1) := by decide +kernel
theorem dJ6_bitCount_0f7a4_41 : decode cJ6_bitCount_0f7a4 41 = .ok (.iload_n 0, 1) := by decide +kernel
theorem dJ6_bitCount_0f7a4_42 : decode cJ6_bitCount_0f7a4 42 = .ok (.iload_n 0, 1) := by decide +kernel
theorem dJ6_bitCount_0f7a4_43 : decode cJ6_bitCount_0f7a4 43 = .ok (.bipush 16, 2) := by decide +kernel
theorem dJ6_bitCount_0f7a4_45 : decode cJ6_bitCount_0f7a4 45 = .ok (.iushr, 1) := by decide +kernel
theorem dJ6_bitCount_0f7a4_46 : decode cJ6_bitCount_0f7a4 46 = .ok (.iadd, 1) := by decide +kernel
theorem dJ6_bitCount_0f7a4_47 : decode cJ6_bitCount_0f7a4 47 = .ok (.istore_n 0, 1) := by decide +kernel
theorem dJ6_bitCount_0f7a4_48 : decode cJ6_bitCount_0f7a4 48 = .ok (.iload_n 0, 1) := by decide +kernel
theorem dJ6_bitCount_0f7a4_49 : decode cJ6_bitCount_0f7a4 49 = .ok (.bipush 63, 2) := by decide +kernel
theorem dJ6_bitCount_0f7a4_51 : decode cJ6_bitCount_0f7a4 51 = .ok (.iand, 1) := by decide +kernel
theorem dJ6_bitCount_0f7a4_52 : decode cJ6_bitCount_0f7a4 52 = .ok (.ireturn, 1) := by decide +kernel
theorem dJ9_min_7cf53_0 : decode cJ9_min_7cf53 0 = .ok (.iload_n 0, 1) := by decide +kernel
theorem dJ9_min_7cf53_1 : decode cJ9_min_7cf53 1 = .ok (.iload_n 1, 1) := by decide +kernel
theorem dJ9_min_7cf53_2 : decode cJ9_min_7cf53 2 = .ok (.if_icmp .gt 7, 3) := by decide +kernel
theorem dJ9_min_7cf53_5 : decode cJ9_min_7cf53 5 = .ok (.iload_n 0, 1) := by decide +kernel
theorem dJ9_min_7cf53_6 : decode cJ9_min_7cf53 6 = .ok (.goto 4, 3) := by decide +kernel
theorem dJ9_min_7cf53_9 : decode cJ9_min_7cf53 9 = .ok (.iload_n 1, 1) := by decide +kernel
theorem dJ9_min_7cf53_10 : decode cJ9_min_7cf53 10 = .ok (.ireturn, 1) := by decide +kernel
theorem dL_cell_0 : decode cL_cell 0 = .ok (.iload_n 1, 1) := by decide +kernel
theorem dL_cell_1 : decode cL_cell 1 = .ok (.aload_n 0, 1) := by decide +kernel
theorem dL_cell_2 : decode cL_cell 2 = .ok (.arraylength, 1) := by decide +kernel
theorem dL_cell_3 : decode cL_cell 3 = .ok (.if_icmp .ge 9, 3) := by decide +kernel
theorem dL_cell_6 : decode cL_cell 6 = .ok (.aload_n 0, 1) := by decide +kernel
theorem dL_cell_7 : decode cL_cell 7 = .ok (.iload_n 1, 1) := by decide +kernel
theorem dL_cell_8 : decode cL_cell 8 = .ok (.iaload, 1) := by decide +kernel
theorem dL_cell_9 : decode cL_cell 9 = .ok (.goto 9, 3) := by decide +kernel
theorem dL_cell_12 : decode cL_cell 12 = .ok (.ldc 7, 2) := by decide +kernel
theorem dL_cell_14 : decode cL_cell 14 = .ok (.iload_n 1, 1) := by decide +kernel
theorem dL_cell_15 : decode cL_cell 15 = .ok (.iconst 1, 1) := by decide +kernel
theorem dL_cell_16 : decode cL_cell 16 = .ok (.iadd, 1) := by decide +kernel
theorem dL_cell_17 : decode cL_cell 17 = .ok (.imul, 1) := by decide +kernel
theorem dL_cell_18 : decode cL_cell 18 = .ok (.ireturn, 1) := by decide +kernel
theorem dL_at_0 : decode cL_at 0 = .ok (.iload_n 0, 1) := by decide +kernel
theorem dL_at_1 : decode cL_at 1 = .ok (.iconst 1, 1) := by decide +kernel
theorem dL_at_2 : decode cL_at 2 = .ok (.iushr, 1) := by decide +kernel
theorem dL_at_3 : decode cL_at 3 = .ok (.iload_n 1, 1) := by decide +kernel
theorem dL_at_4 : decode cL_at 4 = .ok (.irem, 1) := by decide +kernel
theorem dL_at_5 : decode cL_at 5 = .ok (.ireturn, 1) := by decide +kernel
set_option maxRecDepth 20000 in
theorem ggL_mineText_L_cell : GoodIn wsL_mineText wsL_cell := goodIn_r _ [4, 5] (by decide +kernel) (by decide +kernel)
set_option maxRecDepth 20000 in
theorem gL_mineText_L_cell : GoodIn wsL_mineText (va_wsS RL 8 yL_cell wsL_cell) := goodIn_app (goodIn_of _ (by decide +kernel)) ggL_mineText_L_cell
set_option maxRecDepth 20000 in
theorem ggL_mineText_L_at : GoodIn wsL_mineText wsL_at := goodIn_r _ [8] (by decide +kernel) (by decide +kernel)
set_option maxRecDepth 20000 in
theorem gL_mineText_L_at : GoodIn wsL_mineText (va_wsS RL 14 yL_at wsL_at) := goodIn_app (goodIn_of _ (by decide +kernel)) ggL_mineText_L_at
theorem dL_mineText_0 : decode cL_mineText 0 = .ok (.aload_n 0, 1) := by decide +kernel
theorem dL_mineText_1 : decode cL_mineText 1 = .ok (.iload_n 1, 1) := by decide +kernel
theorem dL_mineText_2 : decode cL_mineText 2 = .ok (.invokestatic 8, 3) := by decide +kernel
theorem dL_mineText_5 : decode cL_mineText 5 = .ok (.istore 5, 2) := by decide +kernel
theorem dL_mineText_7 : decode cL_mineText 7 = .ok (.iconst 0, 1) := by decide +kernel
theorem dL_mineText_8 : decode cL_mineText 8 = .ok (.istore 6, 2) := by decide +kernel
theorem dL_mineText_10 : decode cL_mineText 10 = .ok (.iconst 3, 1) := by decide +kernel
theorem dL_mineText_11 : decode cL_mineText 11 = .ok (.iload 5, 2) := by decide +kernel
