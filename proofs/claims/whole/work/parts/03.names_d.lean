set_option maxRecDepth 20000 in
theorem ggX11_next_X11_areNoses : GoodIn wsX11_next wsX11_areNoses := goodIn_r _ [16, 17, 10, 11, 7, 12, 18, 19, 20, 21, 22, 68, 69, 70, 71, 72, 73, 74, 75, 76, 77, 78, 79, 80, 81, 82, 83, 84, 85, 86, 87, 88, 89, 90, 91, 92, 93, 94, 95, 96, 97, 98, 99, 100, 101, 102, 103] (by decide +kernel) (by decide +kernel)
set_option maxRecDepth 20000 in
theorem gX11_next_X11_areNoses : GoodIn wsX11_next (wsV RX11 204 RX11 yX11_areNoses wsX11_areNoses) := goodIn_app (goodIn_of _ (by decide +kernel)) ggX11_next_X11_areNoses
set_option maxRecDepth 20000 in
theorem ggX11_next_X11_fireOf : GoodIn wsX11_next wsX11_fireOf := goodIn_r _ [26, 17, 3, 22, 27, 28, 29, 7, 30, 31, 32, 33, 34, 35, 36, 2, 37, 38, 39, 40, 41, 42, 43, 44, 45, 46, 9, 47, 48, 49, 50, 51, 52, 53, 54, 55, 56, 57, 58, 59, 60, 61, 62, 63, 64, 18, 19, 20, 21, 68, 69, 70, 71, 72, 73, 74, 75, 76, 77, 78, 79, 80, 81, 82, 83, 84, 85, 86, 87, 88, 89, 90, 91, 92, 93, 94, 95, 96, 97, 98, 99, 100, 101, 102, 103] (by decide +kernel) (by decide +kernel)
set_option maxRecDepth 20000 in
theorem gX11_next_X11_fireOf : GoodIn wsX11_next (wsV RX11 207 RX11 yX11_fireOf wsX11_fireOf) := goodIn_app (goodIn_of _ (by decide +kernel)) ggX11_next_X11_fireOf
set_option maxRecDepth 20000 in
theorem ggX11_next_X11_laySmoke : GoodIn wsX11_next wsX11_laySmoke := goodIn_r _ [56, 3, 2, 9, 47, 57, 58, 59, 7, 60, 31, 48, 49, 50, 51, 52, 61, 62, 63, 64, 68, 69, 70, 71, 72, 73, 74, 75, 76, 77, 78, 79, 80, 81, 82, 83, 84, 85, 86, 87, 88, 89, 90, 91, 92, 93, 94, 95, 96, 97, 98, 99, 100, 101, 102, 103] (by decide +kernel) (by decide +kernel)
set_option maxRecDepth 20000 in
theorem gX11_next_X11_laySmoke : GoodIn wsX11_next (wsV RX11 181 RX11 yX11_laySmoke wsX11_laySmoke) := goodIn_app (goodIn_of _ (by decide +kernel)) ggX11_next_X11_laySmoke
set_option maxRecDepth 20000 in
theorem ggX11_next_X11_ones : GoodIn wsX11_next wsX11_ones := goodIn_r _ [67] (by decide +kernel) (by decide +kernel)
set_option maxRecDepth 20000 in
theorem gX11_next_X11_ones : GoodIn wsX11_next (va_wsS RX11 192 yX11_ones wsX11_ones) := goodIn_app (goodIn_of _ (by decide +kernel)) ggX11_next_X11_ones
theorem dX11_next_0 : decode cX11_next 0 = .ok (.aload_n 0, 1) := by decide +kernel
theorem dX11_next_1 : decode cX11_next 1 = .ok (.invokevirtual 104, 3) := by decide +kernel
theorem dX11_next_4 : decode cX11_next 4 = .ok (.ifCond .eq 6, 3) := by decide +kernel
theorem dX11_next_7 : decode cX11_next 7 = .ok (.bipush (-103), 2) := by decide +kernel
theorem dX11_next_9 : decode cX11_next 9 = .ok (.ireturn, 1) := by decide +kernel
theorem dX11_next_10 : decode cX11_next 10 = .ok (.iload_n 1, 1) := by decide +kernel
theorem dX11_next_11 : decode cX11_next 11 = .ok (.i2l, 1) := by decide +kernel
theorem dX11_next_12 : decode cX11_next 12 = .ok (.lconst 0, 1) := by decide +kernel
theorem dX11_next_13 : decode cX11_next 13 = .ok (.ldc2_w 176, 3) := by decide +kernel
theorem dX11_next_16 : decode cX11_next 16 = .ok (.invokestatic 78, 3) := by decide +kernel
theorem dX11_next_19 : decode cX11_next 19 = .ok (.ifCond .eq 11, 3) := by decide +kernel
theorem dX11_next_22 : decode cX11_next 22 = .ok (.aload_n 0, 1) := by decide +kernel
theorem dX11_next_23 : decode cX11_next 23 = .ok (.iload_n 2, 1) := by decide +kernel
theorem dX11_next_24 : decode cX11_next 24 = .ok (.invokevirtual 204, 3) := by decide +kernel
theorem dX11_next_27 : decode cX11_next 27 = .ok (.ifCond .ne 6, 3) := by decide +kernel
theorem dX11_next_30 : decode cX11_next 30 = .ok (.bipush (-102), 2) := by decide +kernel
theorem dX11_next_32 : decode cX11_next 32 = .ok (.ireturn, 1) := by decide +kernel
theorem dX11_next_33 : decode cX11_next 33 = .ok (.aload_n 0, 1) := by decide +kernel
theorem dX11_next_34 : decode cX11_next 34 = .ok (.iload_n 1, 1) := by decide +kernel
theorem dX11_next_35 : decode cX11_next 35 = .ok (.iload_n 2, 1) := by decide +kernel
theorem dX11_next_36 : decode cX11_next 36 = .ok (.invokevirtual 207, 3) := by decide +kernel
theorem dX11_next_39 : decode cX11_next 39 = .ok (.istore_n 3, 1) := by decide +kernel
theorem dX11_next_40 : decode cX11_next 40 = .ok (.iconst 0, 1) := by decide +kernel
theorem dX11_next_41 : decode cX11_next 41 = .ok (.istore 4, 2) := by decide +kernel
theorem dX11_next_43 : decode cX11_next 43 = .ok (.ldc 123, 2) := by decide +kernel
theorem dX11_next_45 : decode cX11_next 45 = .ok (.istore 5, 2) := by decide +kernel
theorem dX11_next_47 : decode cX11_next 47 = .ok (.iconst 0, 1) := by decide +kernel
theorem dX11_next_48 : decode cX11_next 48 = .ok (.istore 6, 2) := by decide +kernel
theorem dX11_next_50 : decode cX11_next 50 = .ok (.iload 6, 2) := by decide +kernel
theorem dX11_next_52 : decode cX11_next 52 = .ok (.bipush 7, 2) := by decide +kernel
theorem dX11_next_54 : decode cX11_next 54 = .ok (.if_icmp .ge 123, 3) := by decide +kernel
theorem dX11_next_57 : decode cX11_next 57 = .ok (.iconst 0, 1) := by decide +kernel
theorem dX11_next_58 : decode cX11_next 58 = .ok (.istore 7, 2) := by decide +kernel
theorem dX11_next_60 : decode cX11_next 60 = .ok (.iconst 0, 1) := by decide +kernel
theorem dX11_next_61 : decode cX11_next 61 = .ok (.istore 8, 2) := by decide +kernel
theorem dX11_next_63 : decode cX11_next 63 = .ok (.iload 8, 2) := by decide +kernel
theorem dX11_next_65 : decode cX11_next 65 = .ok (.bipush 7, 2) := by decide +kernel
theorem dX11_next_67 : decode cX11_next 67 = .ok (.if_icmp .ge 46, 3) := by decide +kernel
theorem dX11_next_70 : decode cX11_next 70 = .ok (.aload_n 0, 1) := by decide +kernel
theorem dX11_next_71 : decode cX11_next 71 = .ok (.iload 8, 2) := by decide +kernel
theorem dX11_next_73 : decode cX11_next 73 = .ok (.invokevirtual 181, 3) := by decide +kernel
theorem dX11_next_76 : decode cX11_next 76 = .ok (.iload 7, 2) := by decide +kernel
theorem dX11_next_78 : decode cX11_next 78 = .ok (.iload_n 3, 1) := by decide +kernel
theorem dX11_next_79 : decode cX11_next 79 = .ok (.iload 8, 2) := by decide +kernel
theorem dX11_next_81 : decode cX11_next 81 = .ok (.ishr, 1) := by decide +kernel
theorem dX11_next_82 : decode cX11_next 82 = .ok (.iconst 1, 1) := by decide +kernel
theorem dX11_next_83 : decode cX11_next 83 = .ok (.iand, 1) := by decide +kernel
theorem dX11_next_84 : decode cX11_next 84 = .ok (.iconst 1, 1) := by decide +kernel
theorem dX11_next_85 : decode cX11_next 85 = .ok (.if_icmp .ne 18, 3) := by decide +kernel
theorem dX11_next_88 : decode cX11_next 88 = .ok (.aload_n 0, 1) := by decide +kernel
theorem dX11_next_89 : decode cX11_next 89 = .ok (.getfield 37, 3) := by decide +kernel
theorem dX11_next_92 : decode cX11_next 92 = .ok (.iload 6, 2) := by decide +kernel
theorem dX11_next_94 : decode cX11_next 94 = .ok (.iaload, 1) := by decide +kernel
theorem dX11_next_95 : decode cX11_next 95 = .ok (.iload_n 1, 1) := by decide +kernel
theorem dX11_next_96 : decode cX11_next 96 = .ok (.if_icmp .gt 7, 3) := by decide +kernel
theorem dX11_next_99 : decode cX11_next 99 = .ok (.iconst 1, 1) := by decide +kernel
theorem dX11_next_100 : decode cX11_next 100 = .ok (.goto 4, 3) := by decide +kernel
theorem dX11_next_103 : decode cX11_next 103 = .ok (.iconst 0, 1) := by decide +kernel
theorem dX11_next_104 : decode cX11_next 104 = .ok (.iadd, 1) := by decide +kernel
theorem dX11_next_105 : decode cX11_next 105 = .ok (.istore 7, 2) := by decide +kernel
theorem dX11_next_107 : decode cX11_next 107 = .ok (.iinc 8 1, 3) := by decide +kernel
theorem dX11_next_110 : decode cX11_next 110 = .ok (.goto (-47), 3) := by decide +kernel
theorem dX11_next_113 : decode cX11_next 113 = .ok (.iload_n 3, 1) := by decide +kernel
theorem dX11_next_114 : decode cX11_next 114 = .ok (.invokestatic 192, 3) := by decide +kernel
theorem dX11_next_117 : decode cX11_next 117 = .ok (.iload 7, 2) := by decide +kernel
theorem dX11_next_119 : decode cX11_next 119 = .ok (.isub, 1) := by decide +kernel
theorem dX11_next_120 : decode cX11_next 120 = .ok (.iload 7, 2) := by decide +kernel
theorem dX11_next_122 : decode cX11_next 122 = .ok (.if_icmp .le 13, 3) := by decide +kernel
theorem dX11_next_125 : decode cX11_next 125 = .ok (.iload_n 3, 1) := by decide +kernel
theorem dX11_next_126 : decode cX11_next 126 = .ok (.invokestatic 192, 3) := by decide +kernel
theorem dX11_next_129 : decode cX11_next 129 = .ok (.iload 7, 2) := by decide +kernel
theorem dX11_next_131 : decode cX11_next 131 = .ok (.isub, 1) := by decide +kernel
theorem dX11_next_132 : decode cX11_next 132 = .ok (.goto 5, 3) := by decide +kernel
theorem dX11_next_135 : decode cX11_next 135 = .ok (.iload 7, 2) := by decide +kernel
theorem dX11_next_137 : decode cX11_next 137 = .ok (.istore 8, 2) := by decide +kernel
theorem dX11_next_139 : decode cX11_next 139 = .ok (.iload 8, 2) := by decide +kernel
theorem dX11_next_141 : decode cX11_next 141 = .ok (.iload 5, 2) := by decide +kernel
theorem dX11_next_143 : decode cX11_next 143 = .ok (.if_icmp .ge 8, 3) := by decide +kernel
theorem dX11_next_146 : decode cX11_next 146 = .ok (.iload 6, 2) := by decide +kernel
theorem dX11_next_148 : decode cX11_next 148 = .ok (.goto 5, 3) := by decide +kernel
theorem dX11_next_151 : decode cX11_next 151 = .ok (.iload 4, 2) := by decide +kernel
theorem dX11_next_153 : decode cX11_next 153 = .ok (.istore 4, 2) := by decide +kernel
theorem dX11_next_155 : decode cX11_next 155 = .ok (.iload 8, 2) := by decide +kernel
theorem dX11_next_157 : decode cX11_next 157 = .ok (.iload 5, 2) := by decide +kernel
theorem dX11_next_159 : decode cX11_next 159 = .ok (.if_icmp .ge 8, 3) := by decide +kernel
theorem dX11_next_162 : decode cX11_next 162 = .ok (.iload 8, 2) := by decide +kernel
theorem dX11_next_164 : decode cX11_next 164 = .ok (.goto 5, 3) := by decide +kernel
theorem dX11_next_167 : decode cX11_next 167 = .ok (.iload 5, 2) := by decide +kernel
theorem dX11_next_169 : decode cX11_next 169 = .ok (.istore 5, 2) := by decide +kernel
theorem dX11_next_171 : decode cX11_next 171 = .ok (.iinc 6 1, 3) := by decide +kernel
theorem dX11_next_174 : decode cX11_next 174 = .ok (.goto (-124), 3) := by decide +kernel
theorem dX11_next_177 : decode cX11_next 177 = .ok (.iload 4, 2) := by decide +kernel
theorem dX11_next_179 : decode cX11_next 179 = .ok (.ireturn, 1) := by decide +kernel
set_option maxRecDepth 20000 in
theorem ggX11_layLengths_X11_isOpen : GoodIn wsX11_layLengths wsX11_isOpen := goodIn_r _ [9, 10, 11, 12, 13, 14, 15, 16, 17, 18, 19, 20, 21, 22, 23, 24, 25, 26, 27, 28, 29, 30, 31, 32, 33, 34, 35, 36, 37, 38, 39, 40, 41, 42, 43, 44, 45, 46] (by decide +kernel) (by decide +kernel)
set_option maxRecDepth 20000 in
theorem gX11_layLengths_X11_isOpen : GoodIn wsX11_layLengths (wsV RX11 124 RX11 yX11_isOpen wsX11_isOpen) := goodIn_app (goodIn_of _ (by decide +kernel)) ggX11_layLengths_X11_isOpen
theorem dX11_layLengths_0 : decode cX11_layLengths 0 = .ok (.iconst 0, 1) := by decide +kernel
theorem dX11_layLengths_1 : decode cX11_layLengths 1 = .ok (.istore_n 1, 1) := by decide +kernel
theorem dX11_layLengths_2 : decode cX11_layLengths 2 = .ok (.iload_n 1, 1) := by decide +kernel
theorem dX11_layLengths_3 : decode cX11_layLengths 3 = .ok (.bipush 49, 2) := by decide +kernel
theorem dX11_layLengths_5 : decode cX11_layLengths 5 = .ok (.if_icmp .ge 32, 3) := by decide +kernel
theorem dX11_layLengths_8 : decode cX11_layLengths 8 = .ok (.aload_n 0, 1) := by decide +kernel
theorem dX11_layLengths_9 : decode cX11_layLengths 9 = .ok (.getfield 40, 3) := by decide +kernel
theorem dX11_layLengths_12 : decode cX11_layLengths 12 = .ok (.iload_n 1, 1) := by decide +kernel
theorem dX11_layLengths_13 : decode cX11_layLengths 13 = .ok (.iload_n 1, 1) := by decide +kernel
theorem dX11_layLengths_14 : decode cX11_layLengths 14 = .ok (.bipush 7, 2) := by decide +kernel
theorem dX11_layLengths_16 : decode cX11_layLengths 16 = .ok (.idiv, 1) := by decide +kernel
theorem dX11_layLengths_17 : decode cX11_layLengths 17 = .ok (.iload_n 1, 1) := by decide +kernel
theorem dX11_layLengths_18 : decode cX11_layLengths 18 = .ok (.bipush 7, 2) := by decide +kernel
theorem dX11_layLengths_20 : decode cX11_layLengths 20 = .ok (.irem, 1) := by decide +kernel
theorem dX11_layLengths_21 : decode cX11_layLengths 21 = .ok (.if_icmp .ne 7, 3) := by decide +kernel
theorem dX11_layLengths_24 : decode cX11_layLengths 24 = .ok (.iconst 0, 1) := by decide +kernel
theorem dX11_layLengths_25 : decode cX11_layLengths 25 = .ok (.goto 5, 3) := by decide +kernel
theorem dX11_layLengths_28 : decode cX11_layLengths 28 = .ok (.ldc 123, 2) := by decide +kernel
theorem dX11_layLengths_30 : decode cX11_layLengths 30 = .ok (.iastore, 1) := by decide +kernel
theorem dX11_layLengths_31 : decode cX11_layLengths 31 = .ok (.iinc 1 1, 3) := by decide +kernel
theorem dX11_layLengths_34 : decode cX11_layLengths 34 = .ok (.goto (-32), 3) := by decide +kernel
theorem dX11_layLengths_37 : decode cX11_layLengths 37 = .ok (.iconst 0, 1) := by decide +kernel
theorem dX11_layLengths_38 : decode cX11_layLengths 38 = .ok (.istore_n 1, 1) := by decide +kernel
theorem dX11_layLengths_39 : decode cX11_layLengths 39 = .ok (.iload_n 1, 1) := by decide +kernel
theorem dX11_layLengths_40 : decode cX11_layLengths 40 = .ok (.aload_n 0, 1) := by decide +kernel
theorem dX11_layLengths_41 : decode cX11_layLengths 41 = .ok (.getfield 101, 3) := by decide +kernel
theorem dX11_layLengths_44 : decode cX11_layLengths 44 = .ok (.if_icmp .ge 103, 3) := by decide +kernel
theorem dX11_layLengths_47 : decode cX11_layLengths 47 = .ok (.aload_n 0, 1) := by decide +kernel
theorem dX11_layLengths_48 : decode cX11_layLengths 48 = .ok (.getfield 19, 3) := by decide +kernel
theorem dX11_layLengths_51 : decode cX11_layLengths 51 = .ok (.iconst 4, 1) := by decide +kernel
theorem dX11_layLengths_52 : decode cX11_layLengths 52 = .ok (.iload_n 1, 1) := by decide +kernel
theorem dX11_layLengths_53 : decode cX11_layLengths 53 = .ok (.imul, 1) := by decide +kernel
theorem dX11_layLengths_54 : decode cX11_layLengths 54 = .ok (.iaload, 1) := by decide +kernel
theorem dX11_layLengths_55 : decode cX11_layLengths 55 = .ok (.istore_n 2, 1) := by decide +kernel
theorem dX11_layLengths_56 : decode cX11_layLengths 56 = .ok (.aload_n 0, 1) := by decide +kernel
theorem dX11_layLengths_57 : decode cX11_layLengths 57 = .ok (.getfield 19, 3) := by decide +kernel
theorem dX11_layLengths_60 : decode cX11_layLengths 60 = .ok (.iconst 4, 1) := by decide +kernel
theorem dX11_layLengths_61 : decode cX11_layLengths 61 = .ok (.iload_n 1, 1) := by decide +kernel
theorem dX11_layLengths_62 : decode cX11_layLengths 62 = .ok (.imul, 1) := by decide +kernel
theorem dX11_layLengths_63 : decode cX11_layLengths 63 = .ok (.iconst 1, 1) := by decide +kernel
theorem dX11_layLengths_64 : decode cX11_layLengths 64 = .ok (.iadd, 1) := by decide +kernel
theorem dX11_layLengths_65 : decode cX11_layLengths 65 = .ok (.iaload, 1) := by decide +kernel
theorem dX11_layLengths_66 : decode cX11_layLengths 66 = .ok (.istore_n 3, 1) := by decide +kernel
theorem dX11_layLengths_67 : decode cX11_layLengths 67 = .ok (.aload_n 0, 1) := by decide +kernel
theorem dX11_layLengths_68 : decode cX11_layLengths 68 = .ok (.iload_n 1, 1) := by decide +kernel
theorem dX11_layLengths_69 : decode cX11_layLengths 69 = .ok (.invokevirtual 124, 3) := by decide +kernel
theorem dX11_layLengths_72 : decode cX11_layLengths 72 = .ok (.ifCond .eq 69, 3) := by decide +kernel
theorem dX11_layLengths_75 : decode cX11_layLengths 75 = .ok (.aload_n 0, 1) := by decide +kernel
theorem dX11_layLengths_76 : decode cX11_layLengths 76 = .ok (.getfield 19, 3) := by decide +kernel
theorem dX11_layLengths_79 : decode cX11_layLengths 79 = .ok (.iconst 4, 1) := by decide +kernel
theorem dX11_layLengths_80 : decode cX11_layLengths 80 = .ok (.iload_n 1, 1) := by decide +kernel
theorem dX11_layLengths_81 : decode cX11_layLengths 81 = .ok (.imul, 1) := by decide +kernel
theorem dX11_layLengths_82 : decode cX11_layLengths 82 = .ok (.iconst 2, 1) := by decide +kernel
theorem dX11_layLengths_83 : decode cX11_layLengths 83 = .ok (.iadd, 1) := by decide +kernel
theorem dX11_layLengths_84 : decode cX11_layLengths 84 = .ok (.iaload, 1) := by decide +kernel
theorem dX11_layLengths_85 : decode cX11_layLengths 85 = .ok (.aload_n 0, 1) := by decide +kernel
theorem dX11_layLengths_86 : decode cX11_layLengths 86 = .ok (.getfield 40, 3) := by decide +kernel
theorem dX11_layLengths_89 : decode cX11_layLengths 89 = .ok (.bipush 7, 2) := by decide +kernel
theorem dX11_layLengths_91 : decode cX11_layLengths 91 = .ok (.iload_n 2, 1) := by decide +kernel
theorem dX11_layLengths_92 : decode cX11_layLengths 92 = .ok (.imul, 1) := by decide +kernel
theorem dX11_layLengths_93 : decode cX11_layLengths 93 = .ok (.iload_n 3, 1) := by decide +kernel
theorem dX11_layLengths_94 : decode cX11_layLengths 94 = .ok (.iadd, 1) := by decide +kernel
theorem dX11_layLengths_95 : decode cX11_layLengths 95 = .ok (.iaload, 1) := by decide +kernel
theorem dX11_layLengths_96 : decode cX11_layLengths 96 = .ok (.if_icmp .ge 45, 3) := by decide +kernel
theorem dX11_layLengths_99 : decode cX11_layLengths 99 = .ok (.aload_n 0, 1) := by decide +kernel
theorem dX11_layLengths_100 : decode cX11_layLengths 100 = .ok (.getfield 40, 3) := by decide +kernel
theorem dX11_layLengths_103 : decode cX11_layLengths 103 = .ok (.bipush 7, 2) := by decide +kernel
theorem dX11_layLengths_105 : decode cX11_layLengths 105 = .ok (.iload_n 2, 1) := by decide +kernel
theorem dX11_layLengths_106 : decode cX11_layLengths 106 = .ok (.imul, 1) := by decide +kernel
theorem dX11_layLengths_107 : decode cX11_layLengths 107 = .ok (.iload_n 3, 1) := by decide +kernel
theorem dX11_layLengths_108 : decode cX11_layLengths 108 = .ok (.iadd, 1) := by decide +kernel
theorem dX11_layLengths_109 : decode cX11_layLengths 109 = .ok (.aload_n 0, 1) := by decide +kernel
theorem dX11_layLengths_110 : decode cX11_layLengths 110 = .ok (.getfield 19, 3) := by decide +kernel
theorem dX11_layLengths_113 : decode cX11_layLengths 113 = .ok (.iconst 4, 1) := by decide +kernel
theorem dX11_layLengths_114 : decode cX11_layLengths 114 = .ok (.iload_n 1, 1) := by decide +kernel
theorem dX11_layLengths_115 : decode cX11_layLengths 115 = .ok (.imul, 1) := by decide +kernel
theorem dX11_layLengths_116 : decode cX11_layLengths 116 = .ok (.iconst 2, 1) := by decide +kernel
theorem dX11_layLengths_117 : decode cX11_layLengths 117 = .ok (.iadd, 1) := by decide +kernel
theorem dX11_layLengths_118 : decode cX11_layLengths 118 = .ok (.iaload, 1) := by decide +kernel
theorem dX11_layLengths_119 : decode cX11_layLengths 119 = .ok (.iastore, 1) := by decide +kernel
theorem dX11_layLengths_120 : decode cX11_layLengths 120 = .ok (.aload_n 0, 1) := by decide +kernel
theorem dX11_layLengths_121 : decode cX11_layLengths 121 = .ok (.getfield 40, 3) := by decide +kernel
theorem dX11_layLengths_124 : decode cX11_layLengths 124 = .ok (.bipush 7, 2) := by decide +kernel
theorem dX11_layLengths_126 : decode cX11_layLengths 126 = .ok (.iload_n 3, 1) := by decide +kernel
theorem dX11_layLengths_127 : decode cX11_layLengths 127 = .ok (.imul, 1) := by decide +kernel
theorem dX11_layLengths_128 : decode cX11_layLengths 128 = .ok (.iload_n 2, 1) := by decide +kernel
theorem dX11_layLengths_129 : decode cX11_layLengths 129 = .ok (.iadd, 1) := by decide +kernel
theorem dX11_layLengths_130 : decode cX11_layLengths 130 = .ok (.aload_n 0, 1) := by decide +kernel
theorem dX11_layLengths_131 : decode cX11_layLengths 131 = .ok (.getfield 19, 3) := by decide +kernel
theorem dX11_layLengths_134 : decode cX11_layLengths 134 = .ok (.iconst 4, 1) := by decide +kernel
theorem dX11_layLengths_135 : decode cX11_layLengths 135 = .ok (.iload_n 1, 1) := by decide +kernel
theorem dX11_layLengths_136 : decode cX11_layLengths 136 = .ok (.imul, 1) := by decide +kernel
theorem dX11_layLengths_137 : decode cX11_layLengths 137 = .ok (.iconst 2, 1) := by decide +kernel
theorem dX11_layLengths_138 : decode cX11_layLengths 138 = .ok (.iadd, 1) := by decide +kernel
theorem dX11_layLengths_139 : decode cX11_layLengths 139 = .ok (.iaload, 1) := by decide +kernel
theorem dX11_layLengths_140 : decode cX11_layLengths 140 = .ok (.iastore, 1) := by decide +kernel
theorem dX11_layLengths_141 : decode cX11_layLengths 141 = .ok (.iinc 1 1, 3) := by decide +kernel
theorem dX11_layLengths_144 : decode cX11_layLengths 144 = .ok (.goto (-105), 3) := by decide +kernel
theorem dX11_layLengths_147 : decode cX11_layLengths 147 = .ok (.iconst 0, 1) := by decide +kernel
theorem dX11_layLengths_148 : decode cX11_layLengths 148 = .ok (.istore_n 1, 1) := by decide +kernel
theorem dX11_layLengths_149 : decode cX11_layLengths 149 = .ok (.iload_n 1, 1) := by decide +kernel
theorem dX11_layLengths_150 : decode cX11_layLengths 150 = .ok (.bipush 7, 2) := by decide +kernel
theorem dX11_layLengths_152 : decode cX11_layLengths 152 = .ok (.if_icmp .ge 79, 3) := by decide +kernel
theorem dX11_layLengths_155 : decode cX11_layLengths 155 = .ok (.iconst 0, 1) := by decide +kernel
theorem dX11_layLengths_156 : decode cX11_layLengths 156 = .ok (.istore_n 2, 1) := by decide +kernel
theorem dX11_layLengths_157 : decode cX11_layLengths 157 = .ok (.iload_n 2, 1) := by decide +kernel
theorem dX11_layLengths_158 : decode cX11_layLengths 158 = .ok (.bipush 49, 2) := by decide +kernel
theorem dX11_layLengths_160 : decode cX11_layLengths 160 = .ok (.if_icmp .ge 65, 3) := by decide +kernel
theorem dX11_layLengths_163 : decode cX11_layLengths 163 = .ok (.aload_n 0, 1) := by decide +kernel
theorem dX11_layLengths_164 : decode cX11_layLengths 164 = .ok (.getfield 40, 3) := by decide +kernel
theorem dX11_layLengths_167 : decode cX11_layLengths 167 = .ok (.bipush 7, 2) := by decide +kernel
theorem dX11_layLengths_169 : decode cX11_layLengths 169 = .ok (.iload_n 2, 1) := by decide +kernel
theorem dX11_layLengths_170 : decode cX11_layLengths 170 = .ok (.bipush 7, 2) := by decide +kernel
theorem dX11_layLengths_172 : decode cX11_layLengths 172 = .ok (.idiv, 1) := by decide +kernel
theorem dX11_layLengths_173 : decode cX11_layLengths 173 = .ok (.imul, 1) := by decide +kernel
theorem dX11_layLengths_174 : decode cX11_layLengths 174 = .ok (.iload_n 1, 1) := by decide +kernel
theorem dX11_layLengths_175 : decode cX11_layLengths 175 = .ok (.iadd, 1) := by decide +kernel
theorem dX11_layLengths_176 : decode cX11_layLengths 176 = .ok (.iaload, 1) := by decide +kernel
theorem dX11_layLengths_177 : decode cX11_layLengths 177 = .ok (.aload_n 0, 1) := by decide +kernel
theorem dX11_layLengths_178 : decode cX11_layLengths 178 = .ok (.getfield 40, 3) := by decide +kernel
theorem dX11_layLengths_181 : decode cX11_layLengths 181 = .ok (.bipush 7, 2) := by decide +kernel
theorem dX11_layLengths_183 : decode cX11_layLengths 183 = .ok (.iload_n 1, 1) := by decide +kernel
theorem dX11_layLengths_184 : decode cX11_layLengths 184 = .ok (.imul, 1) := by decide +kernel
theorem dX11_layLengths_185 : decode cX11_layLengths 185 = .ok (.iload_n 2, 1) := by decide +kernel
theorem dX11_layLengths_186 : decode cX11_layLengths 186 = .ok (.bipush 7, 2) := by decide +kernel
theorem dX11_layLengths_188 : decode cX11_layLengths 188 = .ok (.irem, 1) := by decide +kernel
theorem dX11_layLengths_189 : decode cX11_layLengths 189 = .ok (.iadd, 1) := by decide +kernel
theorem dX11_layLengths_190 : decode cX11_layLengths 190 = .ok (.iaload, 1) := by decide +kernel
theorem dX11_layLengths_191 : decode cX11_layLengths 191 = .ok (.iadd, 1) := by decide +kernel
theorem dX11_layLengths_192 : decode cX11_layLengths 192 = .ok (.istore_n 3, 1) := by decide +kernel
theorem dX11_layLengths_193 : decode cX11_layLengths 193 = .ok (.aload_n 0, 1) := by decide +kernel
theorem dX11_layLengths_194 : decode cX11_layLengths 194 = .ok (.getfield 40, 3) := by decide +kernel
theorem dX11_layLengths_197 : decode cX11_layLengths 197 = .ok (.iload_n 2, 1) := by decide +kernel
theorem dX11_layLengths_198 : decode cX11_layLengths 198 = .ok (.iload_n 3, 1) := by decide +kernel
theorem dX11_layLengths_199 : decode cX11_layLengths 199 = .ok (.aload_n 0, 1) := by decide +kernel
theorem dX11_layLengths_200 : decode cX11_layLengths 200 = .ok (.getfield 40, 3) := by decide +kernel
theorem dX11_layLengths_203 : decode cX11_layLengths 203 = .ok (.iload_n 2, 1) := by decide +kernel
theorem dX11_layLengths_204 : decode cX11_layLengths 204 = .ok (.iaload, 1) := by decide +kernel
theorem dX11_layLengths_205 : decode cX11_layLengths 205 = .ok (.if_icmp .ge 7, 3) := by decide +kernel
theorem dX11_layLengths_208 : decode cX11_layLengths 208 = .ok (.iload_n 3, 1) := by decide +kernel
theorem dX11_layLengths_209 : decode cX11_layLengths 209 = .ok (.goto 9, 3) := by decide +kernel
theorem dX11_layLengths_212 : decode cX11_layLengths 212 = .ok (.aload_n 0, 1) := by decide +kernel
theorem dX11_layLengths_213 : decode cX11_layLengths 213 = .ok (.getfield 40, 3) := by decide +kernel
theorem dX11_layLengths_216 : decode cX11_layLengths 216 = .ok (.iload_n 2, 1) := by decide +kernel
theorem dX11_layLengths_217 : decode cX11_layLengths 217 = .ok (.iaload, 1) := by decide +kernel
theorem dX11_layLengths_218 : decode cX11_layLengths 218 = .ok (.iastore, 1) := by decide +kernel
theorem dX11_layLengths_219 : decode cX11_layLengths 219 = .ok (.iinc 2 1, 3) := by decide +kernel
theorem dX11_layLengths_222 : decode cX11_layLengths 222 = .ok (.goto (-65), 3) := by decide +kernel
theorem dX11_layLengths_225 : decode cX11_layLengths 225 = .ok (.iinc 1 1, 3) := by decide +kernel
theorem dX11_layLengths_228 : decode cX11_layLengths 228 = .ok (.goto (-79), 3) := by decide +kernel
theorem dX11_layLengths_231 : decode cX11_layLengths 231 = .ok (.return_, 1) := by decide +kernel
set_option maxRecDepth 20000 in
theorem ggX11_layRescue_X11_layLengths : GoodIn wsX11_layRescue wsX11_layLengths := goodIn_r _ [10, 3, 1, 11, 12, 13, 14, 15, 9, 16, 17, 21, 22, 23, 24, 25, 26, 27, 28, 29, 30, 31, 32, 33, 34, 35, 36, 37, 38, 39, 40, 41, 42, 43, 44, 45, 46, 47, 48, 49, 50, 51, 52, 53, 54, 55, 56] (by decide +kernel) (by decide +kernel)
set_option maxRecDepth 20000 in
theorem gX11_layRescue_X11_layLengths : GoodIn wsX11_layRescue (wsV RX11 210 RX11 yX11_layLengths wsX11_layLengths) := goodIn_app (goodIn_of _ (by decide +kernel)) ggX11_layRescue_X11_layLengths
set_option maxRecDepth 20000 in
theorem ggX11_layRescue_X11_ones : GoodIn wsX11_layRescue wsX11_ones := goodIn_r _ [20] (by decide +kernel) (by decide +kernel)
set_option maxRecDepth 20000 in
theorem gX11_layRescue_X11_ones : GoodIn wsX11_layRescue (va_wsS RX11 192 yX11_ones wsX11_ones) := goodIn_app (goodIn_of _ (by decide +kernel)) ggX11_layRescue_X11_ones
theorem dX11_layRescue_0 : decode cX11_layRescue 0 = .ok (.aload_n 0, 1) := by decide +kernel
theorem dX11_layRescue_1 : decode cX11_layRescue 1 = .ok (.invokevirtual 210, 3) := by decide +kernel
theorem dX11_layRescue_4 : decode cX11_layRescue 4 = .ok (.iload_n 2, 1) := by decide +kernel
theorem dX11_layRescue_5 : decode cX11_layRescue 5 = .ok (.invokestatic 192, 3) := by decide +kernel
theorem dX11_layRescue_8 : decode cX11_layRescue 8 = .ok (.istore_n 3, 1) := by decide +kernel
theorem dX11_layRescue_9 : decode cX11_layRescue 9 = .ok (.iconst 1, 1) := by decide +kernel
theorem dX11_layRescue_10 : decode cX11_layRescue 10 = .ok (.istore 4, 2) := by decide +kernel
theorem dX11_layRescue_12 : decode cX11_layRescue 12 = .ok (.iconst 0, 1) := by decide +kernel
theorem dX11_layRescue_13 : decode cX11_layRescue 13 = .ok (.istore 5, 2) := by decide +kernel
theorem dX11_layRescue_15 : decode cX11_layRescue 15 = .ok (.iload 5, 2) := by decide +kernel
theorem dX11_layRescue_17 : decode cX11_layRescue 17 = .ok (.iload_n 3, 1) := by decide +kernel
theorem dX11_layRescue_18 : decode cX11_layRescue 18 = .ok (.if_icmp .ge 16, 3) := by decide +kernel
theorem dX11_layRescue_21 : decode cX11_layRescue 21 = .ok (.iload 4, 2) := by decide +kernel
theorem dX11_layRescue_23 : decode cX11_layRescue 23 = .ok (.bipush 7, 2) := by decide +kernel
theorem dX11_layRescue_25 : decode cX11_layRescue 25 = .ok (.imul, 1) := by decide +kernel
theorem dX11_layRescue_26 : decode cX11_layRescue 26 = .ok (.istore 4, 2) := by decide +kernel
theorem dX11_layRescue_28 : decode cX11_layRescue 28 = .ok (.iinc 5 1, 3) := by decide +kernel
theorem dX11_layRescue_31 : decode cX11_layRescue 31 = .ok (.goto (-16), 3) := by decide +kernel
theorem dX11_layRescue_34 : decode cX11_layRescue 34 = .ok (.ldc 123, 2) := by decide +kernel
theorem dX11_layRescue_36 : decode cX11_layRescue 36 = .ok (.istore 5, 2) := by decide +kernel
theorem dX11_layRescue_38 : decode cX11_layRescue 38 = .ok (.iconst 0, 1) := by decide +kernel
theorem dX11_layRescue_39 : decode cX11_layRescue 39 = .ok (.istore 6, 2) := by decide +kernel
theorem dX11_layRescue_41 : decode cX11_layRescue 41 = .ok (.iload 6, 2) := by decide +kernel
theorem dX11_layRescue_43 : decode cX11_layRescue 43 = .ok (.iload 4, 2) := by decide +kernel
theorem dX11_layRescue_45 : decode cX11_layRescue 45 = .ok (.if_icmp .ge 206, 3) := by decide +kernel
theorem dX11_layRescue_48 : decode cX11_layRescue 48 = .ok (.iload 6, 2) := by decide +kernel
theorem dX11_layRescue_50 : decode cX11_layRescue 50 = .ok (.istore 7, 2) := by decide +kernel
theorem dX11_layRescue_52 : decode cX11_layRescue 52 = .ok (.iconst 0, 1) := by decide +kernel
theorem dX11_layRescue_53 : decode cX11_layRescue 53 = .ok (.istore 8, 2) := by decide +kernel
theorem dX11_layRescue_55 : decode cX11_layRescue 55 = .ok (.iload_n 3, 1) := by decide +kernel
theorem dX11_layRescue_56 : decode cX11_layRescue 56 = .ok (.iconst 1, 1) := by decide +kernel
theorem dX11_layRescue_57 : decode cX11_layRescue 57 = .ok (.isub, 1) := by decide +kernel
theorem dX11_layRescue_58 : decode cX11_layRescue 58 = .ok (.istore 9, 2) := by decide +kernel
theorem dX11_layRescue_60 : decode cX11_layRescue 60 = .ok (.iload 9, 2) := by decide +kernel
theorem dX11_layRescue_62 : decode cX11_layRescue 62 = .ok (.ifCond .lt 40, 3) := by decide +kernel
theorem dX11_layRescue_65 : decode cX11_layRescue 65 = .ok (.aload_n 0, 1) := by decide +kernel
theorem dX11_layRescue_66 : decode cX11_layRescue 66 = .ok (.getfield 43, 3) := by decide +kernel
theorem dX11_layRescue_69 : decode cX11_layRescue 69 = .ok (.iload 9, 2) := by decide +kernel
theorem dX11_layRescue_71 : decode cX11_layRescue 71 = .ok (.iload 7, 2) := by decide +kernel
theorem dX11_layRescue_73 : decode cX11_layRescue 73 = .ok (.bipush 7, 2) := by decide +kernel
theorem dX11_layRescue_75 : decode cX11_layRescue 75 = .ok (.irem, 1) := by decide +kernel
theorem dX11_layRescue_76 : decode cX11_layRescue 76 = .ok (.iastore, 1) := by decide +kernel
theorem dX11_layRescue_77 : decode cX11_layRescue 77 = .ok (.iload 8, 2) := by decide +kernel
theorem dX11_layRescue_79 : decode cX11_layRescue 79 = .ok (.iconst 1, 1) := by decide +kernel
theorem dX11_layRescue_80 : decode cX11_layRescue 80 = .ok (.iload 7, 2) := by decide +kernel
theorem dX11_layRescue_82 : decode cX11_layRescue 82 = .ok (.bipush 7, 2) := by decide +kernel
theorem dX11_layRescue_84 : decode cX11_layRescue 84 = .ok (.irem, 1) := by decide +kernel
theorem dX11_layRescue_85 : decode cX11_layRescue 85 = .ok (.ishl, 1) := by decide +kernel
theorem dX11_layRescue_86 : decode cX11_layRescue 86 = .ok (.ior, 1) := by decide +kernel
theorem dX11_layRescue_87 : decode cX11_layRescue 87 = .ok (.istore 8, 2) := by decide +kernel
theorem dX11_layRescue_89 : decode cX11_layRescue 89 = .ok (.iload 7, 2) := by decide +kernel
theorem dX11_layRescue_91 : decode cX11_layRescue 91 = .ok (.bipush 7, 2) := by decide +kernel
theorem dX11_layRescue_93 : decode cX11_layRescue 93 = .ok (.idiv, 1) := by decide +kernel
theorem dX11_layRescue_94 : decode cX11_layRescue 94 = .ok (.istore 7, 2) := by decide +kernel
theorem dX11_layRescue_96 : decode cX11_layRescue 96 = .ok (.iinc 9 (-1), 3) := by decide +kernel
theorem dX11_layRescue_99 : decode cX11_layRescue 99 = .ok (.goto (-39), 3) := by decide +kernel
theorem dX11_layRescue_102 : decode cX11_layRescue 102 = .ok (.iload_n 1, 1) := by decide +kernel
theorem dX11_layRescue_103 : decode cX11_layRescue 103 = .ok (.istore 9, 2) := by decide +kernel
theorem dX11_layRescue_105 : decode cX11_layRescue 105 = .ok (.iconst 0, 1) := by decide +kernel
theorem dX11_layRescue_106 : decode cX11_layRescue 106 = .ok (.istore 10, 2) := by decide +kernel
theorem dX11_layRescue_108 : decode cX11_layRescue 108 = .ok (.iload 8, 2) := by decide +kernel
theorem dX11_layRescue_110 : decode cX11_layRescue 110 = .ok (.iload_n 2, 1) := by decide +kernel
theorem dX11_layRescue_111 : decode cX11_layRescue 111 = .ok (.if_icmp .ne 7, 3) := by decide +kernel
theorem dX11_layRescue_114 : decode cX11_layRescue 114 = .ok (.iconst 0, 1) := by decide +kernel
theorem dX11_layRescue_115 : decode cX11_layRescue 115 = .ok (.goto 5, 3) := by decide +kernel
theorem dX11_layRescue_118 : decode cX11_layRescue 118 = .ok (.ldc 123, 2) := by decide +kernel
theorem dX11_layRescue_120 : decode cX11_layRescue 120 = .ok (.istore 11, 2) := by decide +kernel
theorem dX11_layRescue_122 : decode cX11_layRescue 122 = .ok (.iconst 0, 1) := by decide +kernel
theorem dX11_layRescue_123 : decode cX11_layRescue 123 = .ok (.istore 12, 2) := by decide +kernel
theorem dX11_layRescue_125 : decode cX11_layRescue 125 = .ok (.iload 12, 2) := by decide +kernel
theorem dX11_layRescue_127 : decode cX11_layRescue 127 = .ok (.iload_n 3, 1) := by decide +kernel
theorem dX11_layRescue_128 : decode cX11_layRescue 128 = .ok (.if_icmp .ge 77, 3) := by decide +kernel
theorem dX11_layRescue_131 : decode cX11_layRescue 131 = .ok (.iload 11, 2) := by decide +kernel
theorem dX11_layRescue_133 : decode cX11_layRescue 133 = .ok (.ldc 123, 2) := by decide +kernel
theorem dX11_layRescue_135 : decode cX11_layRescue 135 = .ok (.if_icmp .ge 70, 3) := by decide +kernel
theorem dX11_layRescue_138 : decode cX11_layRescue 138 = .ok (.iload 10, 2) := by decide +kernel
theorem dX11_layRescue_140 : decode cX11_layRescue 140 = .ok (.aload_n 0, 1) := by decide +kernel
theorem dX11_layRescue_141 : decode cX11_layRescue 141 = .ok (.getfield 40, 3) := by decide +kernel
theorem dX11_layRescue_144 : decode cX11_layRescue 144 = .ok (.bipush 7, 2) := by decide +kernel
theorem dX11_layRescue_146 : decode cX11_layRescue 146 = .ok (.iload 9, 2) := by decide +kernel
theorem dX11_layRescue_148 : decode cX11_layRescue 148 = .ok (.imul, 1) := by decide +kernel
theorem dX11_layRescue_149 : decode cX11_layRescue 149 = .ok (.aload_n 0, 1) := by decide +kernel
theorem dX11_layRescue_150 : decode cX11_layRescue 150 = .ok (.getfield 43, 3) := by decide +kernel
theorem dX11_layRescue_153 : decode cX11_layRescue 153 = .ok (.iload 12, 2) := by decide +kernel
theorem dX11_layRescue_155 : decode cX11_layRescue 155 = .ok (.iaload, 1) := by decide +kernel
theorem dX11_layRescue_156 : decode cX11_layRescue 156 = .ok (.iadd, 1) := by decide +kernel
theorem dX11_layRescue_157 : decode cX11_layRescue 157 = .ok (.iaload, 1) := by decide +kernel
theorem dX11_layRescue_158 : decode cX11_layRescue 158 = .ok (.iadd, 1) := by decide +kernel
theorem dX11_layRescue_159 : decode cX11_layRescue 159 = .ok (.istore 10, 2) := by decide +kernel
theorem dX11_layRescue_161 : decode cX11_layRescue 161 = .ok (.aload_n 0, 1) := by decide +kernel
theorem dX11_layRescue_162 : decode cX11_layRescue 162 = .ok (.getfield 43, 3) := by decide +kernel
theorem dX11_layRescue_165 : decode cX11_layRescue 165 = .ok (.iload 12, 2) := by decide +kernel
theorem dX11_layRescue_167 : decode cX11_layRescue 167 = .ok (.iaload, 1) := by decide +kernel
theorem dX11_layRescue_168 : decode cX11_layRescue 168 = .ok (.istore 9, 2) := by decide +kernel
theorem dX11_layRescue_170 : decode cX11_layRescue 170 = .ok (.iload 10, 2) := by decide +kernel
theorem dX11_layRescue_172 : decode cX11_layRescue 172 = .ok (.ldc 123, 2) := by decide +kernel
theorem dX11_layRescue_174 : decode cX11_layRescue 174 = .ok (.if_icmp .ge 21, 3) := by decide +kernel
theorem dX11_layRescue_177 : decode cX11_layRescue 177 = .ok (.iload 11, 2) := by decide +kernel
theorem dX11_layRescue_179 : decode cX11_layRescue 179 = .ok (.aload_n 0, 1) := by decide +kernel
theorem dX11_layRescue_180 : decode cX11_layRescue 180 = .ok (.getfield 25, 3) := by decide +kernel
theorem dX11_layRescue_183 : decode cX11_layRescue 183 = .ok (.iload 9, 2) := by decide +kernel
theorem dX11_layRescue_185 : decode cX11_layRescue 185 = .ok (.iaload, 1) := by decide +kernel
theorem dX11_layRescue_186 : decode cX11_layRescue 186 = .ok (.iconst 1, 1) := by decide +kernel
theorem dX11_layRescue_187 : decode cX11_layRescue 187 = .ok (.iadd, 1) := by decide +kernel
theorem dX11_layRescue_188 : decode cX11_layRescue 188 = .ok (.iload 10, 2) := by decide +kernel
theorem dX11_layRescue_190 : decode cX11_layRescue 190 = .ok (.imul, 1) := by decide +kernel
theorem dX11_layRescue_191 : decode cX11_layRescue 191 = .ok (.iadd, 1) := by decide +kernel
theorem dX11_layRescue_192 : decode cX11_layRescue 192 = .ok (.goto 5, 3) := by decide +kernel
theorem dX11_layRescue_195 : decode cX11_layRescue 195 = .ok (.ldc 123, 2) := by decide +kernel
theorem dX11_layRescue_197 : decode cX11_layRescue 197 = .ok (.istore 11, 2) := by decide +kernel
theorem dX11_layRescue_199 : decode cX11_layRescue 199 = .ok (.iinc 12 1, 3) := by decide +kernel
theorem dX11_layRescue_202 : decode cX11_layRescue 202 = .ok (.goto (-77), 3) := by decide +kernel
theorem dX11_layRescue_205 : decode cX11_layRescue 205 = .ok (.iload 11, 2) := by decide +kernel
theorem dX11_layRescue_207 : decode cX11_layRescue 207 = .ok (.iload 5, 2) := by decide +kernel
theorem dX11_layRescue_209 : decode cX11_layRescue 209 = .ok (.if_icmp .ge 36, 3) := by decide +kernel
theorem dX11_layRescue_212 : decode cX11_layRescue 212 = .ok (.iload 11, 2) := by decide +kernel
theorem dX11_layRescue_214 : decode cX11_layRescue 214 = .ok (.istore 5, 2) := by decide +kernel
theorem dX11_layRescue_216 : decode cX11_layRescue 216 = .ok (.iconst 0, 1) := by decide +kernel
theorem dX11_layRescue_217 : decode cX11_layRescue 217 = .ok (.istore 12, 2) := by decide +kernel
theorem dX11_layRescue_219 : decode cX11_layRescue 219 = .ok (.iload 12, 2) := by decide +kernel
theorem dX11_layRescue_221 : decode cX11_layRescue 221 = .ok (.iload_n 3, 1) := by decide +kernel
theorem dX11_layRescue_222 : decode cX11_layRescue 222 = .ok (.if_icmp .ge 23, 3) := by decide +kernel
theorem dX11_layRescue_225 : decode cX11_layRescue 225 = .ok (.aload_n 0, 1) := by decide +kernel
theorem dX11_layRescue_226 : decode cX11_layRescue 226 = .ok (.getfield 46, 3) := by decide +kernel
theorem dX11_layRescue_229 : decode cX11_layRescue 229 = .ok (.iload 12, 2) := by decide +kernel
theorem dX11_layRescue_231 : decode cX11_layRescue 231 = .ok (.aload_n 0, 1) := by decide +kernel
theorem dX11_layRescue_232 : decode cX11_layRescue 232 = .ok (.getfield 43, 3) := by decide +kernel
theorem dX11_layRescue_235 : decode cX11_layRescue 235 = .ok (.iload 12, 2) := by decide +kernel
theorem dX11_layRescue_237 : decode cX11_layRescue 237 = .ok (.iaload, 1) := by decide +kernel
theorem dX11_layRescue_238 : decode cX11_layRescue 238 = .ok (.iastore, 1) := by decide +kernel
theorem dX11_layRescue_239 : decode cX11_layRescue 239 = .ok (.iinc 12 1, 3) := by decide +kernel
theorem dX11_layRescue_242 : decode cX11_layRescue 242 = .ok (.goto (-23), 3) := by decide +kernel
theorem dX11_layRescue_245 : decode cX11_layRescue 245 = .ok (.iinc 6 1, 3) := by decide +kernel
theorem dX11_layRescue_248 : decode cX11_layRescue 248 = .ok (.goto (-207), 3) := by decide +kernel
theorem dX11_layRescue_251 : decode cX11_layRescue 251 = .ok (.iload 5, 2) := by decide +kernel
theorem dX11_layRescue_253 : decode cX11_layRescue 253 = .ok (.ireturn, 1) := by decide +kernel
set_option maxRecDepth 20000 in
theorem ggX11_rescue_X11_lacks : GoodIn wsX11_rescue wsX11_lacks := goodIn_r _ [10, 11, 40, 41, 42, 43, 44, 45, 46, 47, 48, 49, 50, 51, 52, 53, 54, 55, 56, 57, 58, 59, 60, 61, 62, 63, 64, 65, 66, 67, 68, 69, 70, 71, 72, 73, 74, 75] (by decide +kernel) (by decide +kernel)
set_option maxRecDepth 20000 in
theorem gX11_rescue_X11_lacks : GoodIn wsX11_rescue (wsV RX11 104 RX11 yX11_lacks wsX11_lacks) := goodIn_app (goodIn_of _ (by decide +kernel)) ggX11_rescue_X11_lacks
set_option maxRecDepth 20000 in
theorem ggX11_rescue_X11_isKnot : GoodIn wsX11_rescue wsX11_isKnot := goodIn_r _ [15, 16, 6, 7, 8, 9, 10, 11, 17, 18, 19, 40, 41, 42, 43, 44, 45, 46, 47, 48, 49, 50, 51, 52, 53, 54, 55, 56, 57, 58, 59, 60, 61, 62, 63, 64, 65, 66, 67, 68, 69, 70, 71, 72, 73, 74, 75] (by decide +kernel) (by decide +kernel)
set_option maxRecDepth 20000 in
theorem gX11_rescue_X11_isKnot : GoodIn wsX11_rescue (wsV RX11 157 RX11 yX11_isKnot wsX11_isKnot) := goodIn_app (goodIn_of _ (by decide +kernel)) ggX11_rescue_X11_isKnot
set_option maxRecDepth 20000 in
theorem ggX11_rescue_X11_in : GoodIn wsX11_rescue wsX11_in := goodIn_r _ [19] (by decide +kernel) (by decide +kernel)
set_option maxRecDepth 20000 in
theorem gX11_rescue_X11_in : GoodIn wsX11_rescue (va_wsS RX11 78 yX11_in wsX11_in) := goodIn_app (goodIn_of _ (by decide +kernel)) ggX11_rescue_X11_in
set_option maxRecDepth 20000 in
theorem ggX11_rescue_X11_ones : GoodIn wsX11_rescue wsX11_ones := goodIn_r _ [22] (by decide +kernel) (by decide +kernel)
set_option maxRecDepth 20000 in
theorem gX11_rescue_X11_ones : GoodIn wsX11_rescue (va_wsS RX11 192 yX11_ones wsX11_ones) := goodIn_app (goodIn_of _ (by decide +kernel)) ggX11_rescue_X11_ones
set_option maxRecDepth 20000 in
theorem ggX11_rescue_X11_layRescue : GoodIn wsX11_rescue wsX11_layRescue := goodIn_r _ [26, 4, 27, 28, 29, 5, 30, 31, 32, 9, 33, 11, 34, 35, 36, 37, 38, 39, 20, 21, 22, 40, 41, 42, 43, 44, 45, 46, 47, 48, 49, 50, 51, 52, 53, 54, 55, 56, 57, 58, 59, 60, 61, 62, 63, 64, 65, 66, 67, 68, 69, 70, 71, 72, 73, 74, 75] (by decide +kernel) (by decide +kernel)
set_option maxRecDepth 20000 in
theorem gX11_rescue_X11_layRescue : GoodIn wsX11_rescue (wsV RX11 217 RX11 yX11_layRescue wsX11_layRescue) := goodIn_app (goodIn_of _ (by decide +kernel)) ggX11_rescue_X11_layRescue
theorem dX11_rescue_0 : decode cX11_rescue 0 = .ok (.aload_n 0, 1) := by decide +kernel
theorem dX11_rescue_1 : decode cX11_rescue 1 = .ok (.invokevirtual 104, 3) := by decide +kernel
theorem dX11_rescue_4 : decode cX11_rescue 4 = .ok (.ifCond .eq 6, 3) := by decide +kernel
theorem dX11_rescue_7 : decode cX11_rescue 7 = .ok (.bipush (-103), 2) := by decide +kernel
theorem dX11_rescue_9 : decode cX11_rescue 9 = .ok (.ireturn, 1) := by decide +kernel
theorem dX11_rescue_10 : decode cX11_rescue 10 = .ok (.aload_n 0, 1) := by decide +kernel
theorem dX11_rescue_11 : decode cX11_rescue 11 = .ok (.iload_n 1, 1) := by decide +kernel
theorem dX11_rescue_12 : decode cX11_rescue 12 = .ok (.invokevirtual 157, 3) := by decide +kernel
theorem dX11_rescue_15 : decode cX11_rescue 15 = .ok (.ifCond .ne 6, 3) := by decide +kernel
theorem dX11_rescue_18 : decode cX11_rescue 18 = .ok (.bipush (-101), 2) := by decide +kernel
theorem dX11_rescue_20 : decode cX11_rescue 20 = .ok (.ireturn, 1) := by decide +kernel
theorem dX11_rescue_21 : decode cX11_rescue 21 = .ok (.iload_n 2, 1) := by decide +kernel
theorem dX11_rescue_22 : decode cX11_rescue 22 = .ok (.i2l, 1) := by decide +kernel
theorem dX11_rescue_23 : decode cX11_rescue 23 = .ok (.lconst 0, 1) := by decide +kernel
theorem dX11_rescue_24 : decode cX11_rescue 24 = .ok (.ldc2_w 187, 3) := by decide +kernel
theorem dX11_rescue_27 : decode cX11_rescue 27 = .ok (.invokestatic 78, 3) := by decide +kernel
theorem dX11_rescue_30 : decode cX11_rescue 30 = .ok (.ifCond .eq 29, 3) := by decide +kernel
theorem dX11_rescue_33 : decode cX11_rescue 33 = .ok (.iload_n 2, 1) := by decide +kernel
theorem dX11_rescue_34 : decode cX11_rescue 34 = .ok (.invokestatic 192, 3) := by decide +kernel
theorem dX11_rescue_37 : decode cX11_rescue 37 = .ok (.iconst 5, 1) := by decide +kernel
theorem dX11_rescue_38 : decode cX11_rescue 38 = .ok (.if_icmp .gt 21, 3) := by decide +kernel
theorem dX11_rescue_41 : decode cX11_rescue 41 = .ok (.iload_n 3, 1) := by decide +kernel
theorem dX11_rescue_42 : decode cX11_rescue 42 = .ok (.ifCond .eq 20, 3) := by decide +kernel
theorem dX11_rescue_45 : decode cX11_rescue 45 = .ok (.iload_n 3, 1) := by decide +kernel
theorem dX11_rescue_46 : decode cX11_rescue 46 = .ok (.i2l, 1) := by decide +kernel
theorem dX11_rescue_47 : decode cX11_rescue 47 = .ok (.ldc2_w 213, 3) := by decide +kernel
theorem dX11_rescue_50 : decode cX11_rescue 50 = .ok (.ldc2_w 215, 3) := by decide +kernel
theorem dX11_rescue_53 : decode cX11_rescue 53 = .ok (.invokestatic 78, 3) := by decide +kernel
theorem dX11_rescue_56 : decode cX11_rescue 56 = .ok (.ifCond .ne 6, 3) := by decide +kernel
theorem dX11_rescue_59 : decode cX11_rescue 59 = .ok (.bipush (-102), 2) := by decide +kernel
theorem dX11_rescue_61 : decode cX11_rescue 61 = .ok (.ireturn, 1) := by decide +kernel
theorem dX11_rescue_62 : decode cX11_rescue 62 = .ok (.aload_n 0, 1) := by decide +kernel
theorem dX11_rescue_63 : decode cX11_rescue 63 = .ok (.iload_n 1, 1) := by decide +kernel
theorem dX11_rescue_64 : decode cX11_rescue 64 = .ok (.iload_n 2, 1) := by decide +kernel
theorem dX11_rescue_65 : decode cX11_rescue 65 = .ok (.invokevirtual 217, 3) := by decide +kernel
theorem dX11_rescue_68 : decode cX11_rescue 68 = .ok (.istore 4, 2) := by decide +kernel
theorem dX11_rescue_70 : decode cX11_rescue 70 = .ok (.iload 4, 2) := by decide +kernel
theorem dX11_rescue_72 : decode cX11_rescue 72 = .ok (.ldc 123, 2) := by decide +kernel
theorem dX11_rescue_74 : decode cX11_rescue 74 = .ok (.if_icmp .eq 7, 3) := by decide +kernel
theorem dX11_rescue_77 : decode cX11_rescue 77 = .ok (.iload_n 3, 1) := by decide +kernel
theorem dX11_rescue_78 : decode cX11_rescue 78 = .ok (.ifCond .ne 17, 3) := by decide +kernel
theorem dX11_rescue_81 : decode cX11_rescue 81 = .ok (.iload 4, 2) := by decide +kernel
theorem dX11_rescue_83 : decode cX11_rescue 83 = .ok (.ldc 123, 2) := by decide +kernel
theorem dX11_rescue_85 : decode cX11_rescue 85 = .ok (.if_icmp .ne 7, 3) := by decide +kernel
theorem dX11_rescue_88 : decode cX11_rescue 88 = .ok (.iconst (-1), 1) := by decide +kernel
theorem dX11_rescue_89 : decode cX11_rescue 89 = .ok (.goto 5, 3) := by decide +kernel
theorem dX11_rescue_92 : decode cX11_rescue 92 = .ok (.iload 4, 2) := by decide +kernel
theorem dX11_rescue_94 : decode cX11_rescue 94 = .ok (.ireturn, 1) := by decide +kernel
theorem dX11_rescue_95 : decode cX11_rescue 95 = .ok (.iload_n 3, 1) := by decide +kernel
theorem dX11_rescue_96 : decode cX11_rescue 96 = .ok (.bipush 10, 2) := by decide +kernel
theorem dX11_rescue_98 : decode cX11_rescue 98 = .ok (.isub, 1) := by decide +kernel
theorem dX11_rescue_99 : decode cX11_rescue 99 = .ok (.iload_n 2, 1) := by decide +kernel
theorem dX11_rescue_100 : decode cX11_rescue 100 = .ok (.invokestatic 192, 3) := by decide +kernel
theorem dX11_rescue_103 : decode cX11_rescue 103 = .ok (.if_icmp .ge 15, 3) := by decide +kernel
theorem dX11_rescue_106 : decode cX11_rescue 106 = .ok (.aload_n 0, 1) := by decide +kernel
theorem dX11_rescue_107 : decode cX11_rescue 107 = .ok (.getfield 46, 3) := by decide +kernel
theorem dX11_rescue_110 : decode cX11_rescue 110 = .ok (.iload_n 3, 1) := by decide +kernel
theorem dX11_rescue_111 : decode cX11_rescue 111 = .ok (.bipush 10, 2) := by decide +kernel
theorem dX11_rescue_113 : decode cX11_rescue 113 = .ok (.isub, 1) := by decide +kernel
theorem dX11_rescue_114 : decode cX11_rescue 114 = .ok (.iaload, 1) := by decide +kernel
theorem dX11_rescue_115 : decode cX11_rescue 115 = .ok (.goto 4, 3) := by decide +kernel
theorem dX11_rescue_118 : decode cX11_rescue 118 = .ok (.iconst (-1), 1) := by decide +kernel
theorem dX11_rescue_119 : decode cX11_rescue 119 = .ok (.ireturn, 1) := by decide +kernel
theorem dX11_draw_0 : decode cX11_draw 0 = .ok (.aload_n 0, 1) := by decide +kernel
theorem dX11_draw_1 : decode cX11_draw 1 = .ok (.ldc2_w 220, 3) := by decide +kernel
theorem dX11_draw_4 : decode cX11_draw 4 = .ok (.aload_n 0, 1) := by decide +kernel
theorem dX11_draw_5 : decode cX11_draw 5 = .ok (.getfield 222, 3) := by decide +kernel
theorem dX11_draw_8 : decode cX11_draw 8 = .ok (.i2l, 1) := by decide +kernel
theorem dX11_draw_9 : decode cX11_draw 9 = .ok (.lmul, 1) := by decide +kernel
theorem dX11_draw_10 : decode cX11_draw 10 = .ok (.ldc2_w 225, 3) := by decide +kernel
theorem dX11_draw_13 : decode cX11_draw 13 = .ok (.ladd, 1) := by decide +kernel
theorem dX11_draw_14 : decode cX11_draw 14 = .ok (.ldc2_w 227, 3) := by decide +kernel
theorem dX11_draw_17 : decode cX11_draw 17 = .ok (.land, 1) := by decide +kernel
theorem dX11_draw_18 : decode cX11_draw 18 = .ok (.l2i, 1) := by decide +kernel
theorem dX11_draw_19 : decode cX11_draw 19 = .ok (.putfield 222, 3) := by decide +kernel
theorem dX11_draw_22 : decode cX11_draw 22 = .ok (.aload_n 0, 1) := by decide +kernel
theorem dX11_draw_23 : decode cX11_draw 23 = .ok (.getfield 222, 3) := by decide +kernel
theorem dX11_draw_26 : decode cX11_draw 26 = .ok (.ldc 229, 2) := by decide +kernel
theorem dX11_draw_28 : decode cX11_draw 28 = .ok (.idiv, 1) := by decide +kernel
theorem dX11_draw_29 : decode cX11_draw 29 = .ok (.iload_n 1, 1) := by decide +kernel
theorem dX11_draw_30 : decode cX11_draw 30 = .ok (.irem, 1) := by decide +kernel
theorem dX11_draw_31 : decode cX11_draw 31 = .ok (.ireturn, 1) := by decide +kernel
set_option maxRecDepth 20000 in
theorem ggX11_walkBy_X11_isOpen : GoodIn wsX11_walkBy wsX11_isOpen := goodIn_r _ [7, 8, 23, 24, 25, 26, 27, 28, 29, 30, 31, 32, 33, 34, 35, 36, 37, 38, 39, 40, 41, 42, 43, 44, 45, 46, 47, 48, 49, 50, 51, 52, 53, 54, 55, 56, 57, 58] (by decide +kernel) (by decide +kernel)
set_option maxRecDepth 20000 in
theorem gX11_walkBy_X11_isOpen : GoodIn wsX11_walkBy (wsV RX11 124 RX11 yX11_isOpen wsX11_isOpen) := goodIn_app (goodIn_of _ (by decide +kernel)) ggX11_walkBy_X11_isOpen
set_option maxRecDepth 20000 in
theorem ggX11_walkBy_X11_otherEnd : GoodIn wsX11_walkBy wsX11_otherEnd := goodIn_r _ [12, 13, 23, 24, 25, 26, 27, 28, 29, 30, 31, 32, 33, 34, 35, 36, 37, 38, 39, 40, 41, 42, 43, 44, 45, 46, 47, 48, 49, 50, 51, 52, 53, 54, 55, 56, 57, 58] (by decide +kernel) (by decide +kernel)
set_option maxRecDepth 20000 in
theorem gX11_walkBy_X11_otherEnd : GoodIn wsX11_walkBy (wsV RX11 138 RX11 yX11_otherEnd wsX11_otherEnd) := goodIn_app (goodIn_of _ (by decide +kernel)) ggX11_walkBy_X11_otherEnd
set_option maxRecDepth 20000 in
theorem ggX11_walkBy_X11_draw : GoodIn wsX11_walkBy wsX11_draw := goodIn_r _ [17, 18, 19, 20, 21, 22, 23, 24, 25, 26, 27, 28, 29, 30, 31, 32, 33, 34, 35, 36, 37, 38, 39, 40, 41, 42, 43, 44, 45, 46, 47, 48, 49, 50, 51, 52, 53, 54, 55, 56, 57, 58] (by decide +kernel) (by decide +kernel)
set_option maxRecDepth 20000 in
theorem gX11_walkBy_X11_draw : GoodIn wsX11_walkBy (wsV RX11 230 RX11 yX11_draw wsX11_draw) := goodIn_app (goodIn_of _ (by decide +kernel)) ggX11_walkBy_X11_draw
theorem dX11_walkBy_0 : decode cX11_walkBy 0 = .ok (.aload_n 0, 1) := by decide +kernel
theorem dX11_walkBy_1 : decode cX11_walkBy 1 = .ok (.getfield 34, 3) := by decide +kernel
theorem dX11_walkBy_4 : decode cX11_walkBy 4 = .ok (.iconst 3, 1) := by decide +kernel
theorem dX11_walkBy_5 : decode cX11_walkBy 5 = .ok (.iload_n 1, 1) := by decide +kernel
theorem dX11_walkBy_6 : decode cX11_walkBy 6 = .ok (.imul, 1) := by decide +kernel
theorem dX11_walkBy_7 : decode cX11_walkBy 7 = .ok (.iconst 1, 1) := by decide +kernel
theorem dX11_walkBy_8 : decode cX11_walkBy 8 = .ok (.iadd, 1) := by decide +kernel
theorem dX11_walkBy_9 : decode cX11_walkBy 9 = .ok (.iaload, 1) := by decide +kernel
theorem dX11_walkBy_10 : decode cX11_walkBy 10 = .ok (.istore_n 2, 1) := by decide +kernel
theorem dX11_walkBy_11 : decode cX11_walkBy 11 = .ok (.iconst 0, 1) := by decide +kernel
theorem dX11_walkBy_12 : decode cX11_walkBy 12 = .ok (.istore_n 3, 1) := by decide +kernel
theorem dX11_walkBy_13 : decode cX11_walkBy 13 = .ok (.iconst 0, 1) := by decide +kernel
theorem dX11_walkBy_14 : decode cX11_walkBy 14 = .ok (.istore 4, 2) := by decide +kernel
theorem dX11_walkBy_16 : decode cX11_walkBy 16 = .ok (.iload 4, 2) := by decide +kernel
theorem dX11_walkBy_18 : decode cX11_walkBy 18 = .ok (.aload_n 0, 1) := by decide +kernel
theorem dX11_walkBy_19 : decode cX11_walkBy 19 = .ok (.getfield 101, 3) := by decide +kernel
theorem dX11_walkBy_22 : decode cX11_walkBy 22 = .ok (.if_icmp .ge 37, 3) := by decide +kernel
theorem dX11_walkBy_25 : decode cX11_walkBy 25 = .ok (.iload_n 3, 1) := by decide +kernel
theorem dX11_walkBy_26 : decode cX11_walkBy 26 = .ok (.aload_n 0, 1) := by decide +kernel
theorem dX11_walkBy_27 : decode cX11_walkBy 27 = .ok (.iload 4, 2) := by decide +kernel
theorem dX11_walkBy_29 : decode cX11_walkBy 29 = .ok (.invokevirtual 124, 3) := by decide +kernel
theorem dX11_walkBy_32 : decode cX11_walkBy 32 = .ok (.ifCond .eq 18, 3) := by decide +kernel
theorem dX11_walkBy_35 : decode cX11_walkBy 35 = .ok (.aload_n 0, 1) := by decide +kernel
theorem dX11_walkBy_36 : decode cX11_walkBy 36 = .ok (.iload 4, 2) := by decide +kernel
theorem dX11_walkBy_38 : decode cX11_walkBy 38 = .ok (.iload_n 2, 1) := by decide +kernel
theorem dX11_walkBy_39 : decode cX11_walkBy 39 = .ok (.invokevirtual 138, 3) := by decide +kernel
theorem dX11_walkBy_42 : decode cX11_walkBy 42 = .ok (.iconst (-1), 1) := by decide +kernel
theorem dX11_walkBy_43 : decode cX11_walkBy 43 = .ok (.if_icmp .eq 7, 3) := by decide +kernel
theorem dX11_walkBy_46 : decode cX11_walkBy 46 = .ok (.iconst 1, 1) := by decide +kernel
theorem dX11_walkBy_47 : decode cX11_walkBy 47 = .ok (.goto 4, 3) := by decide +kernel
theorem dX11_walkBy_50 : decode cX11_walkBy 50 = .ok (.iconst 0, 1) := by decide +kernel
theorem dX11_walkBy_51 : decode cX11_walkBy 51 = .ok (.iadd, 1) := by decide +kernel
theorem dX11_walkBy_52 : decode cX11_walkBy 52 = .ok (.istore_n 3, 1) := by decide +kernel
theorem dX11_walkBy_53 : decode cX11_walkBy 53 = .ok (.iinc 4 1, 3) := by decide +kernel
theorem dX11_walkBy_56 : decode cX11_walkBy 56 = .ok (.goto (-40), 3) := by decide +kernel
theorem dX11_walkBy_59 : decode cX11_walkBy 59 = .ok (.aload_n 0, 1) := by decide +kernel
theorem dX11_walkBy_60 : decode cX11_walkBy 60 = .ok (.getfield 34, 3) := by decide +kernel
theorem dX11_walkBy_63 : decode cX11_walkBy 63 = .ok (.iconst 3, 1) := by decide +kernel
theorem dX11_walkBy_64 : decode cX11_walkBy 64 = .ok (.iload_n 1, 1) := by decide +kernel
theorem dX11_walkBy_65 : decode cX11_walkBy 65 = .ok (.imul, 1) := by decide +kernel
theorem dX11_walkBy_66 : decode cX11_walkBy 66 = .ok (.iconst 2, 1) := by decide +kernel
theorem dX11_walkBy_67 : decode cX11_walkBy 67 = .ok (.iadd, 1) := by decide +kernel
theorem dX11_walkBy_68 : decode cX11_walkBy 68 = .ok (.iaload, 1) := by decide +kernel
theorem dX11_walkBy_69 : decode cX11_walkBy 69 = .ok (.iconst 1, 1) := by decide +kernel
theorem dX11_walkBy_70 : decode cX11_walkBy 70 = .ok (.if_icmp .eq 7, 3) := by decide +kernel
theorem dX11_walkBy_73 : decode cX11_walkBy 73 = .ok (.iload_n 3, 1) := by decide +kernel
theorem dX11_walkBy_74 : decode cX11_walkBy 74 = .ok (.ifCond .ne 4, 3) := by decide +kernel
theorem dX11_walkBy_77 : decode cX11_walkBy 77 = .ok (.return_, 1) := by decide +kernel
theorem dX11_walkBy_78 : decode cX11_walkBy 78 = .ok (.aload_n 0, 1) := by decide +kernel
theorem dX11_walkBy_79 : decode cX11_walkBy 79 = .ok (.iload_n 3, 1) := by decide +kernel
theorem dX11_walkBy_80 : decode cX11_walkBy 80 = .ok (.invokevirtual 230, 3) := by decide +kernel
theorem dX11_walkBy_83 : decode cX11_walkBy 83 = .ok (.istore 4, 2) := by decide +kernel
theorem dX11_walkBy_85 : decode cX11_walkBy 85 = .ok (.iconst 0, 1) := by decide +kernel
theorem dX11_walkBy_86 : decode cX11_walkBy 86 = .ok (.istore 5, 2) := by decide +kernel
theorem dX11_walkBy_88 : decode cX11_walkBy 88 = .ok (.iload 5, 2) := by decide +kernel
theorem dX11_walkBy_90 : decode cX11_walkBy 90 = .ok (.aload_n 0, 1) := by decide +kernel
theorem dX11_walkBy_91 : decode cX11_walkBy 91 = .ok (.getfield 101, 3) := by decide +kernel
theorem dX11_walkBy_94 : decode cX11_walkBy 94 = .ok (.if_icmp .ge 67, 3) := by decide +kernel
theorem dX11_walkBy_97 : decode cX11_walkBy 97 = .ok (.aload_n 0, 1) := by decide +kernel
theorem dX11_walkBy_98 : decode cX11_walkBy 98 = .ok (.iload 5, 2) := by decide +kernel
theorem dX11_walkBy_100 : decode cX11_walkBy 100 = .ok (.invokevirtual 124, 3) := by decide +kernel
theorem dX11_walkBy_103 : decode cX11_walkBy 103 = .ok (.ifCond .eq 52, 3) := by decide +kernel
theorem dX11_walkBy_106 : decode cX11_walkBy 106 = .ok (.aload_n 0, 1) := by decide +kernel
theorem dX11_walkBy_107 : decode cX11_walkBy 107 = .ok (.iload 5, 2) := by decide +kernel
theorem dX11_walkBy_109 : decode cX11_walkBy 109 = .ok (.iload_n 2, 1) := by decide +kernel
theorem dX11_walkBy_110 : decode cX11_walkBy 110 = .ok (.invokevirtual 138, 3) := by decide +kernel
theorem dX11_walkBy_113 : decode cX11_walkBy 113 = .ok (.iconst (-1), 1) := by decide +kernel
theorem dX11_walkBy_114 : decode cX11_walkBy 114 = .ok (.if_icmp .eq 41, 3) := by decide +kernel
theorem dX11_walkBy_117 : decode cX11_walkBy 117 = .ok (.aload_n 0, 1) := by decide +kernel
theorem dX11_walkBy_118 : decode cX11_walkBy 118 = .ok (.getfield 34, 3) := by decide +kernel
theorem dX11_walkBy_121 : decode cX11_walkBy 121 = .ok (.iconst 3, 1) := by decide +kernel
theorem dX11_walkBy_122 : decode cX11_walkBy 122 = .ok (.iload_n 1, 1) := by decide +kernel
theorem dX11_walkBy_123 : decode cX11_walkBy 123 = .ok (.imul, 1) := by decide +kernel
theorem dX11_walkBy_124 : decode cX11_walkBy 124 = .ok (.iconst 1, 1) := by decide +kernel
theorem dX11_walkBy_125 : decode cX11_walkBy 125 = .ok (.iadd, 1) := by decide +kernel
theorem dX11_walkBy_126 : decode cX11_walkBy 126 = .ok (.iload 4, 2) := by decide +kernel
theorem dX11_walkBy_128 : decode cX11_walkBy 128 = .ok (.ifCond .ne 13, 3) := by decide +kernel
theorem dX11_walkBy_131 : decode cX11_walkBy 131 = .ok (.aload_n 0, 1) := by decide +kernel
theorem dX11_walkBy_132 : decode cX11_walkBy 132 = .ok (.iload 5, 2) := by decide +kernel
theorem dX11_walkBy_134 : decode cX11_walkBy 134 = .ok (.iload_n 2, 1) := by decide +kernel
theorem dX11_walkBy_135 : decode cX11_walkBy 135 = .ok (.invokevirtual 138, 3) := by decide +kernel
theorem dX11_walkBy_138 : decode cX11_walkBy 138 = .ok (.goto 13, 3) := by decide +kernel
theorem dX11_walkBy_141 : decode cX11_walkBy 141 = .ok (.aload_n 0, 1) := by decide +kernel
theorem dX11_walkBy_142 : decode cX11_walkBy 142 = .ok (.getfield 34, 3) := by decide +kernel
theorem dX11_walkBy_145 : decode cX11_walkBy 145 = .ok (.iconst 3, 1) := by decide +kernel
theorem dX11_walkBy_146 : decode cX11_walkBy 146 = .ok (.iload_n 1, 1) := by decide +kernel
theorem dX11_walkBy_147 : decode cX11_walkBy 147 = .ok (.imul, 1) := by decide +kernel
theorem dX11_walkBy_148 : decode cX11_walkBy 148 = .ok (.iconst 1, 1) := by decide +kernel
theorem dX11_walkBy_149 : decode cX11_walkBy 149 = .ok (.iadd, 1) := by decide +kernel
theorem dX11_walkBy_150 : decode cX11_walkBy 150 = .ok (.iaload, 1) := by decide +kernel
theorem dX11_walkBy_151 : decode cX11_walkBy 151 = .ok (.iastore, 1) := by decide +kernel
theorem dX11_walkBy_152 : decode cX11_walkBy 152 = .ok (.iinc 4 (-1), 3) := by decide +kernel
theorem dX11_walkBy_155 : decode cX11_walkBy 155 = .ok (.iinc 5 1, 3) := by decide +kernel
theorem dX11_walkBy_158 : decode cX11_walkBy 158 = .ok (.goto (-70), 3) := by decide +kernel
theorem dX11_walkBy_161 : decode cX11_walkBy 161 = .ok (.return_, 1) := by decide +kernel
theorem dX11_copy_0 : decode cX11_copy 0 = .ok (.iconst 0, 1) := by decide +kernel
theorem dX11_copy_1 : decode cX11_copy 1 = .ok (.istore_n 2, 1) := by decide +kernel
theorem dX11_copy_2 : decode cX11_copy 2 = .ok (.iload_n 2, 1) := by decide +kernel
theorem dX11_copy_3 : decode cX11_copy 3 = .ok (.aload_n 0, 1) := by decide +kernel
theorem dX11_copy_4 : decode cX11_copy 4 = .ok (.arraylength, 1) := by decide +kernel
theorem dX11_copy_5 : decode cX11_copy 5 = .ok (.if_icmp .ge 15, 3) := by decide +kernel
theorem dX11_copy_8 : decode cX11_copy 8 = .ok (.aload_n 1, 1) := by decide +kernel
theorem dX11_copy_9 : decode cX11_copy 9 = .ok (.iload_n 2, 1) := by decide +kernel
theorem dX11_copy_10 : decode cX11_copy 10 = .ok (.aload_n 0, 1) := by decide +kernel
theorem dX11_copy_11 : decode cX11_copy 11 = .ok (.iload_n 2, 1) := by decide +kernel
theorem dX11_copy_12 : decode cX11_copy 12 = .ok (.iaload, 1) := by decide +kernel
theorem dX11_copy_13 : decode cX11_copy 13 = .ok (.iastore, 1) := by decide +kernel
theorem dX11_copy_14 : decode cX11_copy 14 = .ok (.iinc 2 1, 3) := by decide +kernel
theorem dX11_copy_17 : decode cX11_copy 17 = .ok (.goto (-15), 3) := by decide +kernel
theorem dX11_copy_20 : decode cX11_copy 20 = .ok (.return_, 1) := by decide +kernel
set_option maxRecDepth 20000 in
theorem ggX11_walks_X11_lacks : GoodIn wsX11_walks wsX11_lacks := goodIn_r _ [14, 15, 81, 82, 83, 84, 85, 86, 87, 88, 89, 90, 91, 92, 93, 94, 95, 96, 97, 98, 99, 100, 101, 102, 103, 104, 105, 106, 107, 108, 109, 110, 111, 112, 113, 114, 115, 116] (by decide +kernel) (by decide +kernel)
set_option maxRecDepth 20000 in
theorem gX11_walks_X11_lacks : GoodIn wsX11_walks (wsV RX11 104 RX11 yX11_lacks wsX11_lacks) := goodIn_app (goodIn_of _ (by decide +kernel)) ggX11_walks_X11_lacks
set_option maxRecDepth 20000 in
theorem ggX11_walks_X11_in : GoodIn wsX11_walks wsX11_in := goodIn_r _ [18] (by decide +kernel) (by decide +kernel)
set_option maxRecDepth 20000 in
theorem gX11_walks_X11_in : GoodIn wsX11_walks (va_wsS RX11 78 yX11_in wsX11_in) := goodIn_app (goodIn_of _ (by decide +kernel)) ggX11_walks_X11_in
set_option maxRecDepth 20000 in
theorem ggX11_walks_X11_copy : GoodIn wsX11_walks wsX11_copy := goodIn_r _ [21] (by decide +kernel) (by decide +kernel)
set_option maxRecDepth 20000 in
theorem gX11_walks_X11_copy : GoodIn wsX11_walks (va_wsS RX11 235 yX11_copy wsX11_copy) := goodIn_app (goodIn_of _ (by decide +kernel)) ggX11_walks_X11_copy
set_option maxRecDepth 20000 in
theorem ggX11_walks_X11_draw : GoodIn wsX11_walks wsX11_draw := goodIn_r _ [25, 26, 8, 27, 28, 29, 81, 82, 83, 84, 85, 86, 87, 88, 89, 90, 91, 92, 93, 94, 95, 96, 97, 98, 99, 100, 101, 102, 103, 104, 105, 106, 107, 108, 109, 110, 111, 112, 113, 114, 115, 116] (by decide +kernel) (by decide +kernel)
set_option maxRecDepth 20000 in
theorem gX11_walks_X11_draw : GoodIn wsX11_walks (wsV RX11 230 RX11 yX11_draw wsX11_draw) := goodIn_app (goodIn_of _ (by decide +kernel)) ggX11_walks_X11_draw
set_option maxRecDepth 20000 in
theorem ggX11_walks_X11_walkBy : GoodIn wsX11_walks wsX11_walkBy := goodIn_r _ [33, 3, 15, 34, 35, 36, 13, 37, 38, 39, 40, 41, 42, 43, 22, 23, 24, 25, 26, 8, 27, 28, 29, 81, 82, 83, 84, 85, 86, 87, 88, 89, 90, 91, 92, 93, 94, 95, 96, 97, 98, 99, 100, 101, 102, 103, 104, 105, 106, 107, 108, 109, 110, 111, 112, 113, 114, 115, 116] (by decide +kernel) (by decide +kernel)
set_option maxRecDepth 20000 in
theorem gX11_walks_X11_walkBy : GoodIn wsX11_walks (wsV RX11 239 RX11 yX11_walkBy wsX11_walkBy) := goodIn_app (goodIn_of _ (by decide +kernel)) ggX11_walks_X11_walkBy
set_option maxRecDepth 20000 in
theorem ggX11_walks_X11_minute : GoodIn wsX11_walks wsX11_minute := goodIn_r _ [47, 5, 9, 3, 7, 48, 49, 50, 13, 51, 52, 53, 54, 55, 56, 57, 58, 59, 60, 61, 62, 63, 64, 65, 66, 67, 68, 15, 43, 34, 35, 36, 37, 38, 69, 70, 71, 72, 39, 40, 41, 42, 73, 74, 75, 76, 77, 78, 79, 80, 81, 82, 83, 84, 85, 86, 87, 88, 89, 90, 91, 92, 93, 94, 95, 96, 97, 98, 99, 100, 101, 102, 103, 104, 105, 106, 107, 108, 109, 110, 111, 112, 113, 114, 115, 116] (by decide +kernel) (by decide +kernel)
set_option maxRecDepth 20000 in
theorem gX11_walks_X11_minute : GoodIn wsX11_walks (wsV RX11 178 RX11 yX11_minute wsX11_minute) := goodIn_app (goodIn_of _ (by decide +kernel)) ggX11_walks_X11_minute
theorem dX11_walks_0 : decode cX11_walks 0 = .ok (.aload_n 0, 1) := by decide +kernel
theorem dX11_walks_1 : decode cX11_walks 1 = .ok (.invokevirtual 104, 3) := by decide +kernel
theorem dX11_walks_4 : decode cX11_walks 4 = .ok (.ifCond .eq 6, 3) := by decide +kernel
theorem dX11_walks_7 : decode cX11_walks 7 = .ok (.bipush (-103), 2) := by decide +kernel
theorem dX11_walks_9 : decode cX11_walks 9 = .ok (.ireturn, 1) := by decide +kernel
theorem dX11_walks_10 : decode cX11_walks 10 = .ok (.iload_n 1, 1) := by decide +kernel
theorem dX11_walks_11 : decode cX11_walks 11 = .ok (.i2l, 1) := by decide +kernel
theorem dX11_walks_12 : decode cX11_walks 12 = .ok (.lconst 1, 1) := by decide +kernel
theorem dX11_walks_13 : decode cX11_walks 13 = .ok (.ldc2_w 176, 3) := by decide +kernel
theorem dX11_walks_16 : decode cX11_walks 16 = .ok (.invokestatic 78, 3) := by decide +kernel
theorem dX11_walks_19 : decode cX11_walks 19 = .ok (.ifCond .eq 19, 3) := by decide +kernel
theorem dX11_walks_22 : decode cX11_walks 22 = .ok (.iload_n 2, 1) := by decide +kernel
theorem dX11_walks_23 : decode cX11_walks 23 = .ok (.ifCond .lt 15, 3) := by decide +kernel
theorem dX11_walks_26 : decode cX11_walks 26 = .ok (.iload_n 3, 1) := by decide +kernel
theorem dX11_walks_27 : decode cX11_walks 27 = .ok (.i2l, 1) := by decide +kernel
theorem dX11_walks_28 : decode cX11_walks 28 = .ok (.lconst 0, 1) := by decide +kernel
theorem dX11_walks_29 : decode cX11_walks 29 = .ok (.ldc2_w 233, 3) := by decide +kernel
theorem dX11_walks_32 : decode cX11_walks 32 = .ok (.invokestatic 78, 3) := by decide +kernel
theorem dX11_walks_35 : decode cX11_walks 35 = .ok (.ifCond .ne 6, 3) := by decide +kernel
theorem dX11_walks_38 : decode cX11_walks 38 = .ok (.bipush (-102), 2) := by decide +kernel
theorem dX11_walks_40 : decode cX11_walks 40 = .ok (.ireturn, 1) := by decide +kernel
theorem dX11_walks_41 : decode cX11_walks 41 = .ok (.aload_n 0, 1) := by decide +kernel
theorem dX11_walks_42 : decode cX11_walks 42 = .ok (.getfield 34, 3) := by decide +kernel
theorem dX11_walks_45 : decode cX11_walks 45 = .ok (.aload_n 0, 1) := by decide +kernel
theorem dX11_walks_46 : decode cX11_walks 46 = .ok (.getfield 49, 3) := by decide +kernel
theorem dX11_walks_49 : decode cX11_walks 49 = .ok (.invokestatic 235, 3) := by decide +kernel
theorem dX11_walks_52 : decode cX11_walks 52 = .ok (.aload_n 0, 1) := by decide +kernel
theorem dX11_walks_53 : decode cX11_walks 53 = .ok (.getfield 25, 3) := by decide +kernel
theorem dX11_walks_56 : decode cX11_walks 56 = .ok (.aload_n 0, 1) := by decide +kernel
theorem dX11_walks_57 : decode cX11_walks 57 = .ok (.getfield 52, 3) := by decide +kernel
theorem dX11_walks_60 : decode cX11_walks 60 = .ok (.invokestatic 235, 3) := by decide +kernel
theorem dX11_walks_63 : decode cX11_walks 63 = .ok (.aload_n 0, 1) := by decide +kernel
theorem dX11_walks_64 : decode cX11_walks 64 = .ok (.getfield 114, 3) := by decide +kernel
theorem dX11_walks_67 : decode cX11_walks 67 = .ok (.istore 4, 2) := by decide +kernel
theorem dX11_walks_69 : decode cX11_walks 69 = .ok (.aload_n 0, 1) := by decide +kernel
theorem dX11_walks_70 : decode cX11_walks 70 = .ok (.iload_n 2, 1) := by decide +kernel
theorem dX11_walks_71 : decode cX11_walks 71 = .ok (.putfield 222, 3) := by decide +kernel
theorem dX11_walks_74 : decode cX11_walks 74 = .ok (.iconst 0, 1) := by decide +kernel
theorem dX11_walks_75 : decode cX11_walks 75 = .ok (.istore 5, 2) := by decide +kernel
theorem dX11_walks_77 : decode cX11_walks 77 = .ok (.iload 5, 2) := by decide +kernel
theorem dX11_walks_79 : decode cX11_walks 79 = .ok (.iload_n 1, 1) := by decide +kernel
theorem dX11_walks_80 : decode cX11_walks 80 = .ok (.if_icmp .ge 34, 3) := by decide +kernel
theorem dX11_walks_83 : decode cX11_walks 83 = .ok (.aload_n 0, 1) := by decide +kernel
theorem dX11_walks_84 : decode cX11_walks 84 = .ok (.getfield 117, 3) := by decide +kernel
theorem dX11_walks_87 : decode cX11_walks 87 = .ok (.ifCond .le 15, 3) := by decide +kernel
theorem dX11_walks_90 : decode cX11_walks 90 = .ok (.aload_n 0, 1) := by decide +kernel
theorem dX11_walks_91 : decode cX11_walks 91 = .ok (.aload_n 0, 1) := by decide +kernel
theorem dX11_walks_92 : decode cX11_walks 92 = .ok (.aload_n 0, 1) := by decide +kernel
theorem dX11_walks_93 : decode cX11_walks 93 = .ok (.getfield 117, 3) := by decide +kernel
theorem dX11_walks_96 : decode cX11_walks 96 = .ok (.invokevirtual 230, 3) := by decide +kernel
theorem dX11_walks_99 : decode cX11_walks 99 = .ok (.invokevirtual 239, 3) := by decide +kernel
theorem dX11_walks_102 : decode cX11_walks 102 = .ok (.aload_n 0, 1) := by decide +kernel
theorem dX11_walks_103 : decode cX11_walks 103 = .ok (.invokevirtual 178, 3) := by decide +kernel
theorem dX11_walks_106 : decode cX11_walks 106 = .ok (.istore 6, 2) := by decide +kernel
theorem dX11_walks_108 : decode cX11_walks 108 = .ok (.iinc 5 1, 3) := by decide +kernel
theorem dX11_walks_111 : decode cX11_walks 111 = .ok (.goto (-34), 3) := by decide +kernel
theorem dX11_walks_114 : decode cX11_walks 114 = .ok (.iconst 0, 1) := by decide +kernel
theorem dX11_walks_115 : decode cX11_walks 115 = .ok (.istore 5, 2) := by decide +kernel
theorem dX11_walks_117 : decode cX11_walks 117 = .ok (.iconst 0, 1) := by decide +kernel
theorem dX11_walks_118 : decode cX11_walks 118 = .ok (.istore 6, 2) := by decide +kernel
theorem dX11_walks_120 : decode cX11_walks 120 = .ok (.iconst 0, 1) := by decide +kernel
theorem dX11_walks_121 : decode cX11_walks 121 = .ok (.istore 7, 2) := by decide +kernel
theorem dX11_walks_123 : decode cX11_walks 123 = .ok (.iload 7, 2) := by decide +kernel
theorem dX11_walks_125 : decode cX11_walks 125 = .ok (.aload_n 0, 1) := by decide +kernel
theorem dX11_walks_126 : decode cX11_walks 126 = .ok (.getfield 117, 3) := by decide +kernel
theorem dX11_walks_129 : decode cX11_walks 129 = .ok (.if_icmp .ge 25, 3) := by decide +kernel
theorem dX11_walks_132 : decode cX11_walks 132 = .ok (.iload 5, 2) := by decide +kernel
theorem dX11_walks_134 : decode cX11_walks 134 = .ok (.aload_n 0, 1) := by decide +kernel
theorem dX11_walks_135 : decode cX11_walks 135 = .ok (.getfield 34, 3) := by decide +kernel
theorem dX11_walks_138 : decode cX11_walks 138 = .ok (.iconst 3, 1) := by decide +kernel
theorem dX11_walks_139 : decode cX11_walks 139 = .ok (.iload 7, 2) := by decide +kernel
theorem dX11_walks_141 : decode cX11_walks 141 = .ok (.imul, 1) := by decide +kernel
theorem dX11_walks_142 : decode cX11_walks 142 = .ok (.iconst 2, 1) := by decide +kernel
theorem dX11_walks_143 : decode cX11_walks 143 = .ok (.iadd, 1) := by decide +kernel
theorem dX11_walks_144 : decode cX11_walks 144 = .ok (.iaload, 1) := by decide +kernel
theorem dX11_walks_145 : decode cX11_walks 145 = .ok (.iadd, 1) := by decide +kernel
theorem dX11_walks_146 : decode cX11_walks 146 = .ok (.istore 5, 2) := by decide +kernel
theorem dX11_walks_148 : decode cX11_walks 148 = .ok (.iinc 7 1, 3) := by decide +kernel
theorem dX11_walks_151 : decode cX11_walks 151 = .ok (.goto (-28), 3) := by decide +kernel
theorem dX11_walks_154 : decode cX11_walks 154 = .ok (.iconst 0, 1) := by decide +kernel
theorem dX11_walks_155 : decode cX11_walks 155 = .ok (.istore 7, 2) := by decide +kernel
theorem dX11_walks_157 : decode cX11_walks 157 = .ok (.iload 7, 2) := by decide +kernel
theorem dX11_walks_159 : decode cX11_walks 159 = .ok (.bipush 7, 2) := by decide +kernel
theorem dX11_walks_161 : decode cX11_walks 161 = .ok (.if_icmp .ge 21, 3) := by decide +kernel
theorem dX11_walks_164 : decode cX11_walks 164 = .ok (.iload 6, 2) := by decide +kernel
theorem dX11_walks_166 : decode cX11_walks 166 = .ok (.aload_n 0, 1) := by decide +kernel
theorem dX11_walks_167 : decode cX11_walks 167 = .ok (.getfield 25, 3) := by decide +kernel
theorem dX11_walks_170 : decode cX11_walks 170 = .ok (.iload 7, 2) := by decide +kernel
theorem dX11_walks_172 : decode cX11_walks 172 = .ok (.iaload, 1) := by decide +kernel
theorem dX11_walks_173 : decode cX11_walks 173 = .ok (.iadd, 1) := by decide +kernel
theorem dX11_walks_174 : decode cX11_walks 174 = .ok (.istore 6, 2) := by decide +kernel
theorem dX11_walks_176 : decode cX11_walks 176 = .ok (.iinc 7 1, 3) := by decide +kernel
theorem dX11_walks_179 : decode cX11_walks 179 = .ok (.goto (-22), 3) := by decide +kernel
theorem dX11_walks_182 : decode cX11_walks 182 = .ok (.aload_n 0, 1) := by decide +kernel
theorem dX11_walks_183 : decode cX11_walks 183 = .ok (.getfield 117, 3) := by decide +kernel
theorem dX11_walks_186 : decode cX11_walks 186 = .ok (.ifCond .ne 7, 3) := by decide +kernel
theorem dX11_walks_189 : decode cX11_walks 189 = .ok (.iconst (-1), 1) := by decide +kernel
theorem dX11_walks_190 : decode cX11_walks 190 = .ok (.goto 9, 3) := by decide +kernel
theorem dX11_walks_193 : decode cX11_walks 193 = .ok (.aload_n 0, 1) := by decide +kernel
theorem dX11_walks_194 : decode cX11_walks 194 = .ok (.getfield 34, 3) := by decide +kernel
theorem dX11_walks_197 : decode cX11_walks 197 = .ok (.iconst 1, 1) := by decide +kernel
theorem dX11_walks_198 : decode cX11_walks 198 = .ok (.iaload, 1) := by decide +kernel
theorem dX11_walks_199 : decode cX11_walks 199 = .ok (.istore 7, 2) := by decide +kernel
theorem dX11_walks_201 : decode cX11_walks 201 = .ok (.aload_n 0, 1) := by decide +kernel
theorem dX11_walks_202 : decode cX11_walks 202 = .ok (.getfield 49, 3) := by decide +kernel
theorem dX11_walks_205 : decode cX11_walks 205 = .ok (.aload_n 0, 1) := by decide +kernel
theorem dX11_walks_206 : decode cX11_walks 206 = .ok (.getfield 34, 3) := by decide +kernel
theorem dX11_walks_209 : decode cX11_walks 209 = .ok (.invokestatic 235, 3) := by decide +kernel
theorem dX11_walks_212 : decode cX11_walks 212 = .ok (.aload_n 0, 1) := by decide +kernel
theorem dX11_walks_213 : decode cX11_walks 213 = .ok (.getfield 52, 3) := by decide +kernel
theorem dX11_walks_216 : decode cX11_walks 216 = .ok (.aload_n 0, 1) := by decide +kernel
theorem dX11_walks_217 : decode cX11_walks 217 = .ok (.getfield 25, 3) := by decide +kernel
theorem dX11_walks_220 : decode cX11_walks 220 = .ok (.invokestatic 235, 3) := by decide +kernel
theorem dX11_walks_223 : decode cX11_walks 223 = .ok (.aload_n 0, 1) := by decide +kernel
theorem dX11_walks_224 : decode cX11_walks 224 = .ok (.iload 4, 2) := by decide +kernel
theorem dX11_walks_226 : decode cX11_walks 226 = .ok (.putfield 114, 3) := by decide +kernel
theorem dX11_walks_229 : decode cX11_walks 229 = .ok (.iload_n 3, 1) := by decide +kernel
theorem dX11_walks_230 : decode cX11_walks 230 = .ok (.ifCond .ne 8, 3) := by decide +kernel
theorem dX11_walks_233 : decode cX11_walks 233 = .ok (.iload 5, 2) := by decide +kernel
theorem dX11_walks_235 : decode cX11_walks 235 = .ok (.goto 27, 3) := by decide +kernel
theorem dX11_walks_238 : decode cX11_walks 238 = .ok (.iload_n 3, 1) := by decide +kernel
theorem dX11_walks_239 : decode cX11_walks 239 = .ok (.iconst 1, 1) := by decide +kernel
theorem dX11_walks_240 : decode cX11_walks 240 = .ok (.if_icmp .ne 8, 3) := by decide +kernel
theorem dX11_walks_243 : decode cX11_walks 243 = .ok (.iload 7, 2) := by decide +kernel
theorem dX11_walks_245 : decode cX11_walks 245 = .ok (.goto 17, 3) := by decide +kernel
theorem dX11_walks_248 : decode cX11_walks 248 = .ok (.iload_n 3, 1) := by decide +kernel
theorem dX11_walks_249 : decode cX11_walks 249 = .ok (.iconst 2, 1) := by decide +kernel
theorem dX11_walks_250 : decode cX11_walks 250 = .ok (.if_icmp .ne 8, 3) := by decide +kernel
theorem dX11_walks_253 : decode cX11_walks 253 = .ok (.iload 6, 2) := by decide +kernel
theorem dX11_walks_255 : decode cX11_walks 255 = .ok (.goto 7, 3) := by decide +kernel
theorem dX11_walks_258 : decode cX11_walks 258 = .ok (.aload_n 0, 1) := by decide +kernel
theorem dX11_walks_259 : decode cX11_walks 259 = .ok (.getfield 222, 3) := by decide +kernel
theorem dX11_walks_262 : decode cX11_walks 262 = .ok (.ireturn, 1) := by decide +kernel
set_option maxRecDepth 20000 in
theorem ggX11_image_X11_lacks : GoodIn wsX11_image wsX11_lacks := goodIn_r _ [19, 20, 24, 25, 26, 27, 28, 29, 30, 31, 32, 33, 34, 35, 36, 37, 38, 39, 40, 41, 42, 43, 44, 45, 46, 47, 48, 49, 50, 51, 52, 53, 54, 55, 56, 57, 58, 59] (by decide +kernel) (by decide +kernel)
set_option maxRecDepth 20000 in
theorem gX11_image_X11_lacks : GoodIn wsX11_image (wsV RX11 104 RX11 yX11_lacks wsX11_lacks) := goodIn_app (goodIn_of _ (by decide +kernel)) ggX11_image_X11_lacks
set_option maxRecDepth 20000 in
theorem ggX11_image_X11_copy : GoodIn wsX11_image wsX11_copy := goodIn_r _ [23] (by decide +kernel) (by decide +kernel)
set_option maxRecDepth 20000 in
theorem gX11_image_X11_copy : GoodIn wsX11_image (va_wsS RX11 235 yX11_copy wsX11_copy) := goodIn_app (goodIn_of _ (by decide +kernel)) ggX11_image_X11_copy
theorem dX11_image_0 : decode cX11_image 0 = .ok (.aload_n 0, 1) := by decide +kernel
theorem dX11_image_1 : decode cX11_image 1 = .ok (.invokevirtual 104, 3) := by decide +kernel
theorem dX11_image_4 : decode cX11_image 4 = .ok (.ifCond .eq 6, 3) := by decide +kernel
theorem dX11_image_7 : decode cX11_image 7 = .ok (.bipush (-103), 2) := by decide +kernel
theorem dX11_image_9 : decode cX11_image 9 = .ok (.ireturn, 1) := by decide +kernel
theorem dX11_image_10 : decode cX11_image 10 = .ok (.aload_n 0, 1) := by decide +kernel
theorem dX11_image_11 : decode cX11_image 11 = .ok (.getfield 25, 3) := by decide +kernel
theorem dX11_image_14 : decode cX11_image 14 = .ok (.aload_n 0, 1) := by decide +kernel
theorem dX11_image_15 : decode cX11_image 15 = .ok (.getfield 55, 3) := by decide +kernel
theorem dX11_image_18 : decode cX11_image 18 = .ok (.invokestatic 235, 3) := by decide +kernel
theorem dX11_image_21 : decode cX11_image 21 = .ok (.aload_n 0, 1) := by decide +kernel
theorem dX11_image_22 : decode cX11_image 22 = .ok (.getfield 34, 3) := by decide +kernel
theorem dX11_image_25 : decode cX11_image 25 = .ok (.aload_n 0, 1) := by decide +kernel
theorem dX11_image_26 : decode cX11_image 26 = .ok (.getfield 58, 3) := by decide +kernel
theorem dX11_image_29 : decode cX11_image 29 = .ok (.invokestatic 235, 3) := by decide +kernel
theorem dX11_image_32 : decode cX11_image 32 = .ok (.aload_n 0, 1) := by decide +kernel
theorem dX11_image_33 : decode cX11_image 33 = .ok (.aload_n 0, 1) := by decide +kernel
theorem dX11_image_34 : decode cX11_image 34 = .ok (.getfield 117, 3) := by decide +kernel
theorem dX11_image_37 : decode cX11_image 37 = .ok (.putfield 242, 3) := by decide +kernel
theorem dX11_image_40 : decode cX11_image 40 = .ok (.aload_n 0, 1) := by decide +kernel
theorem dX11_image_41 : decode cX11_image 41 = .ok (.aload_n 0, 1) := by decide +kernel
theorem dX11_image_42 : decode cX11_image 42 = .ok (.getfield 108, 3) := by decide +kernel
theorem dX11_image_45 : decode cX11_image 45 = .ok (.putfield 245, 3) := by decide +kernel
theorem dX11_image_48 : decode cX11_image 48 = .ok (.aload_n 0, 1) := by decide +kernel
theorem dX11_image_49 : decode cX11_image 49 = .ok (.aload_n 0, 1) := by decide +kernel
theorem dX11_image_50 : decode cX11_image 50 = .ok (.getfield 111, 3) := by decide +kernel
theorem dX11_image_53 : decode cX11_image 53 = .ok (.putfield 248, 3) := by decide +kernel
theorem dX11_image_56 : decode cX11_image 56 = .ok (.aload_n 0, 1) := by decide +kernel
theorem dX11_image_57 : decode cX11_image 57 = .ok (.aload_n 0, 1) := by decide +kernel
theorem dX11_image_58 : decode cX11_image 58 = .ok (.getfield 114, 3) := by decide +kernel
theorem dX11_image_61 : decode cX11_image 61 = .ok (.putfield 251, 3) := by decide +kernel
theorem dX11_image_64 : decode cX11_image 64 = .ok (.aload_n 0, 1) := by decide +kernel
theorem dX11_image_65 : decode cX11_image 65 = .ok (.aload_n 0, 1) := by decide +kernel
theorem dX11_image_66 : decode cX11_image 66 = .ok (.getfield 120, 3) := by decide +kernel
theorem dX11_image_69 : decode cX11_image 69 = .ok (.putfield 61, 3) := by decide +kernel
theorem dX11_image_72 : decode cX11_image 72 = .ok (.aload_n 0, 1) := by decide +kernel
theorem dX11_image_73 : decode cX11_image 73 = .ok (.getfield 114, 3) := by decide +kernel
theorem dX11_image_76 : decode cX11_image 76 = .ok (.ireturn, 1) := by decide +kernel
set_option maxRecDepth 20000 in
theorem ggX11_restore_X11_copy : GoodIn wsX11_restore wsX11_copy := goodIn_r _ [18] (by decide +kernel) (by decide +kernel)
set_option maxRecDepth 20000 in
theorem gX11_restore_X11_copy : GoodIn wsX11_restore (va_wsS RX11 235 yX11_copy wsX11_copy) := goodIn_app (goodIn_of _ (by decide +kernel)) ggX11_restore_X11_copy
theorem dX11_restore_0 : decode cX11_restore 0 = .ok (.aload_n 0, 1) := by decide +kernel
theorem dX11_restore_1 : decode cX11_restore 1 = .ok (.getfield 61, 3) := by decide +kernel
theorem dX11_restore_4 : decode cX11_restore 4 = .ok (.aload_n 0, 1) := by decide +kernel
theorem dX11_restore_5 : decode cX11_restore 5 = .ok (.getfield 120, 3) := by decide +kernel
theorem dX11_restore_8 : decode cX11_restore 8 = .ok (.if_icmp .ne 14, 3) := by decide +kernel
theorem dX11_restore_11 : decode cX11_restore 11 = .ok (.aload_n 0, 1) := by decide +kernel
theorem dX11_restore_12 : decode cX11_restore 12 = .ok (.getfield 242, 3) := by decide +kernel
theorem dX11_restore_15 : decode cX11_restore 15 = .ok (.aload_n 0, 1) := by decide +kernel
theorem dX11_restore_16 : decode cX11_restore 16 = .ok (.getfield 117, 3) := by decide +kernel
theorem dX11_restore_19 : decode cX11_restore 19 = .ok (.if_icmp .eq 6, 3) := by decide +kernel
theorem dX11_restore_22 : decode cX11_restore 22 = .ok (.bipush (-103), 2) := by decide +kernel
theorem dX11_restore_24 : decode cX11_restore 24 = .ok (.ireturn, 1) := by decide +kernel
theorem dX11_restore_25 : decode cX11_restore 25 = .ok (.aload_n 0, 1) := by decide +kernel
theorem dX11_restore_26 : decode cX11_restore 26 = .ok (.getfield 55, 3) := by decide +kernel
theorem dX11_restore_29 : decode cX11_restore 29 = .ok (.aload_n 0, 1) := by decide +kernel
theorem dX11_restore_30 : decode cX11_restore 30 = .ok (.getfield 25, 3) := by decide +kernel
theorem dX11_restore_33 : decode cX11_restore 33 = .ok (.invokestatic 235, 3) := by decide +kernel
theorem dX11_restore_36 : decode cX11_restore 36 = .ok (.aload_n 0, 1) := by decide +kernel
theorem dX11_restore_37 : decode cX11_restore 37 = .ok (.getfield 58, 3) := by decide +kernel
theorem dX11_restore_40 : decode cX11_restore 40 = .ok (.aload_n 0, 1) := by decide +kernel
theorem dX11_restore_41 : decode cX11_restore 41 = .ok (.getfield 34, 3) := by decide +kernel
theorem dX11_restore_44 : decode cX11_restore 44 = .ok (.invokestatic 235, 3) := by decide +kernel
theorem dX11_restore_47 : decode cX11_restore 47 = .ok (.aload_n 0, 1) := by decide +kernel
theorem dX11_restore_48 : decode cX11_restore 48 = .ok (.aload_n 0, 1) := by decide +kernel
theorem dX11_restore_49 : decode cX11_restore 49 = .ok (.getfield 245, 3) := by decide +kernel
theorem dX11_restore_52 : decode cX11_restore 52 = .ok (.putfield 108, 3) := by decide +kernel
theorem dX11_restore_55 : decode cX11_restore 55 = .ok (.aload_n 0, 1) := by decide +kernel
theorem dX11_restore_56 : decode cX11_restore 56 = .ok (.aload_n 0, 1) := by decide +kernel
theorem dX11_restore_57 : decode cX11_restore 57 = .ok (.getfield 248, 3) := by decide +kernel
theorem dX11_restore_60 : decode cX11_restore 60 = .ok (.putfield 111, 3) := by decide +kernel
theorem dX11_restore_63 : decode cX11_restore 63 = .ok (.aload_n 0, 1) := by decide +kernel
theorem dX11_restore_64 : decode cX11_restore 64 = .ok (.aload_n 0, 1) := by decide +kernel
theorem dX11_restore_65 : decode cX11_restore 65 = .ok (.getfield 251, 3) := by decide +kernel
theorem dX11_restore_68 : decode cX11_restore 68 = .ok (.putfield 114, 3) := by decide +kernel
theorem dX11_restore_71 : decode cX11_restore 71 = .ok (.aload_n 0, 1) := by decide +kernel
theorem dX11_restore_72 : decode cX11_restore 72 = .ok (.getfield 114, 3) := by decide +kernel
theorem dX11_restore_75 : decode cX11_restore 75 = .ok (.ireturn, 1) := by decide +kernel
set_option maxRecDepth 20000 in
theorem ggX11_countOf_X11_lacks : GoodIn wsX11_countOf wsX11_lacks := goodIn_r _ [14, 1, 15, 16, 17, 18, 19, 20, 21, 22, 23, 24, 25, 26, 27, 28, 29, 30, 31, 32, 33, 34, 35, 36, 37, 38, 39, 40, 41, 42, 43, 44, 45, 46, 47, 48, 49, 50] (by decide +kernel) (by decide +kernel)
set_option maxRecDepth 20000 in
theorem gX11_countOf_X11_lacks : GoodIn wsX11_countOf (wsV RX11 104 RX11 yX11_lacks wsX11_lacks) := goodIn_app (goodIn_of _ (by decide +kernel)) ggX11_countOf_X11_lacks
theorem dX11_countOf_0 : decode cX11_countOf 0 = .ok (.iconst 0, 1) := by decide +kernel
theorem dX11_countOf_1 : decode cX11_countOf 1 = .ok (.istore_n 2, 1) := by decide +kernel
theorem dX11_countOf_2 : decode cX11_countOf 2 = .ok (.iconst 0, 1) := by decide +kernel
theorem dX11_countOf_3 : decode cX11_countOf 3 = .ok (.istore_n 3, 1) := by decide +kernel
theorem dX11_countOf_4 : decode cX11_countOf 4 = .ok (.iconst 0, 1) := by decide +kernel
theorem dX11_countOf_5 : decode cX11_countOf 5 = .ok (.istore 4, 2) := by decide +kernel
theorem dX11_countOf_7 : decode cX11_countOf 7 = .ok (.iload 4, 2) := by decide +kernel
theorem dX11_countOf_9 : decode cX11_countOf 9 = .ok (.aload_n 0, 1) := by decide +kernel
theorem dX11_countOf_10 : decode cX11_countOf 10 = .ok (.getfield 101, 3) := by decide +kernel
theorem dX11_countOf_13 : decode cX11_countOf 13 = .ok (.if_icmp .ge 23, 3) := by decide +kernel
theorem dX11_countOf_16 : decode cX11_countOf 16 = .ok (.iload_n 2, 1) := by decide +kernel
theorem dX11_countOf_17 : decode cX11_countOf 17 = .ok (.aload_n 0, 1) := by decide +kernel
theorem dX11_countOf_18 : decode cX11_countOf 18 = .ok (.getfield 19, 3) := by decide +kernel
theorem dX11_countOf_21 : decode cX11_countOf 21 = .ok (.iconst 4, 1) := by decide +kernel
theorem dX11_countOf_22 : decode cX11_countOf 22 = .ok (.iload 4, 2) := by decide +kernel
theorem dX11_countOf_24 : decode cX11_countOf 24 = .ok (.imul, 1) := by decide +kernel
theorem dX11_countOf_25 : decode cX11_countOf 25 = .ok (.iconst 3, 1) := by decide +kernel
theorem dX11_countOf_26 : decode cX11_countOf 26 = .ok (.iadd, 1) := by decide +kernel
theorem dX11_countOf_27 : decode cX11_countOf 27 = .ok (.iaload, 1) := by decide +kernel
theorem dX11_countOf_28 : decode cX11_countOf 28 = .ok (.iadd, 1) := by decide +kernel
theorem dX11_countOf_29 : decode cX11_countOf 29 = .ok (.istore_n 2, 1) := by decide +kernel
theorem dX11_countOf_30 : decode cX11_countOf 30 = .ok (.iinc 4 1, 3) := by decide +kernel
theorem dX11_countOf_33 : decode cX11_countOf 33 = .ok (.goto (-26), 3) := by decide +kernel
theorem dX11_countOf_36 : decode cX11_countOf 36 = .ok (.iconst 0, 1) := by decide +kernel
theorem dX11_countOf_37 : decode cX11_countOf 37 = .ok (.istore 4, 2) := by decide +kernel
theorem dX11_countOf_39 : decode cX11_countOf 39 = .ok (.iload 4, 2) := by decide +kernel
theorem dX11_countOf_41 : decode cX11_countOf 41 = .ok (.bipush 7, 2) := by decide +kernel
theorem dX11_countOf_43 : decode cX11_countOf 43 = .ok (.if_icmp .ge 35, 3) := by decide +kernel
theorem dX11_countOf_46 : decode cX11_countOf 46 = .ok (.aload_n 0, 1) := by decide +kernel
theorem dX11_countOf_47 : decode cX11_countOf 47 = .ok (.invokevirtual 104, 3) := by decide +kernel
theorem dX11_countOf_50 : decode cX11_countOf 50 = .ok (.ifCond .ne 28, 3) := by decide +kernel
theorem dX11_countOf_53 : decode cX11_countOf 53 = .ok (.iload_n 3, 1) := by decide +kernel
theorem dX11_countOf_54 : decode cX11_countOf 54 = .ok (.aload_n 0, 1) := by decide +kernel
theorem dX11_countOf_55 : decode cX11_countOf 55 = .ok (.getfield 22, 3) := by decide +kernel
theorem dX11_countOf_58 : decode cX11_countOf 58 = .ok (.iload 4, 2) := by decide +kernel
theorem dX11_countOf_60 : decode cX11_countOf 60 = .ok (.iaload, 1) := by decide +kernel
theorem dX11_countOf_61 : decode cX11_countOf 61 = .ok (.iconst (-1), 1) := by decide +kernel
theorem dX11_countOf_62 : decode cX11_countOf 62 = .ok (.if_icmp .ne 7, 3) := by decide +kernel
theorem dX11_countOf_65 : decode cX11_countOf 65 = .ok (.iconst 0, 1) := by decide +kernel
theorem dX11_countOf_66 : decode cX11_countOf 66 = .ok (.goto 4, 3) := by decide +kernel
theorem dX11_countOf_69 : decode cX11_countOf 69 = .ok (.iconst 1, 1) := by decide +kernel
theorem dX11_countOf_70 : decode cX11_countOf 70 = .ok (.iadd, 1) := by decide +kernel
theorem dX11_countOf_71 : decode cX11_countOf 71 = .ok (.istore_n 3, 1) := by decide +kernel
theorem dX11_countOf_72 : decode cX11_countOf 72 = .ok (.iinc 4 1, 3) := by decide +kernel
theorem dX11_countOf_75 : decode cX11_countOf 75 = .ok (.goto (-36), 3) := by decide +kernel
theorem dX11_countOf_78 : decode cX11_countOf 78 = .ok (.iload_n 1, 1) := by decide +kernel
theorem dX11_countOf_79 : decode cX11_countOf 79 = .ok (.tableswitch 88 0 8 #[49, 54, 56, 58, 63, 68, 73, 78, 83], 49) := by decide +kernel
theorem dX11_countOf_128 : decode cX11_countOf 128 = .ok (.aload_n 0, 1) := by decide +kernel
theorem dX11_countOf_129 : decode cX11_countOf 129 = .ok (.getfield 101, 3) := by decide +kernel
theorem dX11_countOf_132 : decode cX11_countOf 132 = .ok (.ireturn, 1) := by decide +kernel
theorem dX11_countOf_133 : decode cX11_countOf 133 = .ok (.iload_n 2, 1) := by decide +kernel
theorem dX11_countOf_134 : decode cX11_countOf 134 = .ok (.ireturn, 1) := by decide +kernel
theorem dX11_countOf_135 : decode cX11_countOf 135 = .ok (.iload_n 3, 1) := by decide +kernel
theorem dX11_countOf_136 : decode cX11_countOf 136 = .ok (.ireturn, 1) := by decide +kernel
theorem dX11_countOf_137 : decode cX11_countOf 137 = .ok (.aload_n 0, 1) := by decide +kernel
theorem dX11_countOf_138 : decode cX11_countOf 138 = .ok (.getfield 117, 3) := by decide +kernel
theorem dX11_countOf_141 : decode cX11_countOf 141 = .ok (.ireturn, 1) := by decide +kernel
theorem dX11_countOf_142 : decode cX11_countOf 142 = .ok (.aload_n 0, 1) := by decide +kernel
theorem dX11_countOf_143 : decode cX11_countOf 143 = .ok (.getfield 111, 3) := by decide +kernel
theorem dX11_countOf_146 : decode cX11_countOf 146 = .ok (.ireturn, 1) := by decide +kernel
theorem dX11_countOf_147 : decode cX11_countOf 147 = .ok (.aload_n 0, 1) := by decide +kernel
theorem dX11_countOf_148 : decode cX11_countOf 148 = .ok (.getfield 114, 3) := by decide +kernel
theorem dX11_countOf_151 : decode cX11_countOf 151 = .ok (.ireturn, 1) := by decide +kernel
theorem dX11_countOf_152 : decode cX11_countOf 152 = .ok (.aload_n 0, 1) := by decide +kernel
theorem dX11_countOf_153 : decode cX11_countOf 153 = .ok (.getfield 67, 3) := by decide +kernel
theorem dX11_countOf_156 : decode cX11_countOf 156 = .ok (.ireturn, 1) := by decide +kernel
theorem dX11_countOf_157 : decode cX11_countOf 157 = .ok (.aload_n 0, 1) := by decide +kernel
theorem dX11_countOf_158 : decode cX11_countOf 158 = .ok (.getfield 120, 3) := by decide +kernel
theorem dX11_countOf_161 : decode cX11_countOf 161 = .ok (.ireturn, 1) := by decide +kernel
theorem dX11_countOf_162 : decode cX11_countOf 162 = .ok (.aload_n 0, 1) := by decide +kernel
theorem dX11_countOf_163 : decode cX11_countOf 163 = .ok (.getfield 189, 3) := by decide +kernel
theorem dX11_countOf_166 : decode cX11_countOf 166 = .ok (.ireturn, 1) := by decide +kernel
theorem dX11_countOf_167 : decode cX11_countOf 167 = .ok (.bipush (-102), 2) := by decide +kernel
theorem dX11_countOf_169 : decode cX11_countOf 169 = .ok (.ireturn, 1) := by decide +kernel
set_option maxRecDepth 20000 in
theorem ggX11_count_X11_countOf : GoodIn wsX11_count wsX11_countOf := goodIn_r _ [5, 6, 7, 8, 9, 10, 11, 12, 13, 14, 15, 16, 17, 4, 18, 19, 20, 21, 22, 23, 24, 25, 26, 27, 28, 29, 30, 31, 32, 33, 34, 35, 36, 37, 38, 39, 40, 41, 42, 43, 44, 45, 46, 47, 48, 49, 50, 51, 52, 53, 54] (by decide +kernel) (by decide +kernel)
set_option maxRecDepth 20000 in
theorem gX11_count_X11_countOf : GoodIn wsX11_count (wsV RX11 254 RX11 yX11_countOf wsX11_countOf) := goodIn_app (goodIn_of _ (by decide +kernel)) ggX11_count_X11_countOf
theorem dX11_count_0 : decode cX11_count 0 = .ok (.aload_n 0, 1) := by decide +kernel
theorem dX11_count_1 : decode cX11_count 1 = .ok (.iload_n 1, 1) := by decide +kernel
theorem dX11_count_2 : decode cX11_count 2 = .ok (.invokevirtual 254, 3) := by decide +kernel
theorem dX11_count_5 : decode cX11_count 5 = .ok (.ireturn, 1) := by decide +kernel
theorem dX11_say_0 : decode cX11_say 0 = .ok (.aload_n 0, 1) := by decide +kernel
theorem dX11_say_1 : decode cX11_say 1 = .ok (.ldc2_w 257, 3) := by decide +kernel
theorem dX11_say_4 : decode cX11_say 4 = .ok (.aload_n 0, 1) := by decide +kernel
theorem dX11_say_5 : decode cX11_say 5 = .ok (.getfield 259, 3) := by decide +kernel
theorem dX11_say_8 : decode cX11_say 8 = .ok (.lmul, 1) := by decide +kernel
theorem dX11_say_9 : decode cX11_say 9 = .ok (.lload_n 1, 1) := by decide +kernel
theorem dX11_say_10 : decode cX11_say 10 = .ok (.ladd, 1) := by decide +kernel
theorem dX11_say_11 : decode cX11_say 11 = .ok (.putfield 259, 3) := by decide +kernel
theorem dX11_say_14 : decode cX11_say 14 = .ok (.return_, 1) := by decide +kernel
set_option maxRecDepth 20000 in
theorem ggX11_sayKnot_X11_tellKnot : GoodIn wsX11_sayKnot wsX11_tellKnot := goodIn_r _ [5, 6, 7, 8, 9, 10, 11, 4, 12, 13, 14, 15, 16, 17, 18, 19, 20, 21, 22, 23, 24, 25, 26, 27, 28, 29, 30, 31, 32, 33, 34, 35, 36, 37, 38, 39, 40, 41, 42, 43, 44, 45, 46, 66, 67, 68, 69, 70, 71, 72, 73, 74, 75, 76, 77, 78, 79, 80, 81, 82, 83, 84, 85, 86, 87, 88, 89, 90, 91, 92, 93, 94, 95, 96, 97, 98, 99, 100, 101] (by decide +kernel) (by decide +kernel)
set_option maxRecDepth 20000 in
theorem gX11_sayKnot_X11_tellKnot : GoodIn wsX11_sayKnot (wsV RX11 160 RX11 yX11_tellKnot wsX11_tellKnot) := goodIn_app (goodIn_of _ (by decide +kernel)) ggX11_sayKnot_X11_tellKnot
set_option maxRecDepth 20000 in
theorem ggX11_sayKnot_X11_say : GoodIn wsX11_sayKnot wsX11_say := goodIn_r _ [50, 51, 52, 66, 67, 68, 69, 70, 71, 72, 73, 74, 75, 76, 77, 78, 79, 80, 81, 82, 83, 84, 85, 86, 87, 88, 89, 90, 91, 92, 93, 94, 95, 96, 97, 98, 99, 100, 101] (by decide +kernel) (by decide +kernel)
set_option maxRecDepth 20000 in
theorem gX11_sayKnot_X11_say : GoodIn wsX11_sayKnot (wsV RX11 263 RX11 yX11_say wsX11_say) := goodIn_app (goodIn_of _ (by decide +kernel)) ggX11_sayKnot_X11_say
set_option maxRecDepth 20000 in
theorem ggX11_sayKnot_X11_smeltOf : GoodIn wsX11_sayKnot wsX11_smeltOf := goodIn_r _ [56, 57, 17, 9, 10, 11, 4, 12, 7, 13, 14, 15, 16, 6, 18, 19, 20, 21, 22, 23, 24, 25, 26, 27, 28, 29, 30, 31, 32, 33, 34, 58, 59, 60, 61, 43, 44, 45, 46, 39, 40, 41, 42, 66, 67, 68, 69, 70, 71, 72, 73, 74, 75, 76, 77, 78, 79, 80, 81, 82, 83, 84, 85, 86, 87, 88, 89, 90, 91, 92, 93, 94, 95, 96, 97, 98, 99, 100, 101] (by decide +kernel) (by decide +kernel)
set_option maxRecDepth 20000 in
theorem gX11_sayKnot_X11_smeltOf : GoodIn wsX11_sayKnot (wsV RX11 184 RX11 yX11_smeltOf wsX11_smeltOf) := goodIn_app (goodIn_of _ (by decide +kernel)) ggX11_sayKnot_X11_smeltOf
set_option maxRecDepth 20000 in
theorem ggX11_sayKnot_X11_wayOutOf : GoodIn wsX11_sayKnot wsX11_wayOutOf := goodIn_r _ [65, 6, 28, 9, 10, 11, 4, 12, 7, 13, 14, 15, 16, 17, 18, 19, 20, 21, 22, 23, 24, 25, 26, 27, 29, 30, 31, 32, 33, 34, 43, 44, 45, 46, 39, 40, 41, 42, 66, 67, 68, 69, 70, 71, 72, 73, 74, 75, 76, 77, 78, 79, 80, 81, 82, 83, 84, 85, 86, 87, 88, 89, 90, 91, 92, 93, 94, 95, 96, 97, 98, 99, 100, 101] (by decide +kernel) (by decide +kernel)
set_option maxRecDepth 20000 in
theorem gX11_sayKnot_X11_wayOutOf : GoodIn wsX11_sayKnot (wsV RX11 198 RX11 yX11_wayOutOf wsX11_wayOutOf) := goodIn_app (goodIn_of _ (by decide +kernel)) ggX11_sayKnot_X11_wayOutOf
theorem dX11_sayKnot_0 : decode cX11_sayKnot 0 = .ok (.iconst 0, 1) := by decide +kernel
theorem dX11_sayKnot_1 : decode cX11_sayKnot 1 = .ok (.istore_n 2, 1) := by decide +kernel
theorem dX11_sayKnot_2 : decode cX11_sayKnot 2 = .ok (.iload_n 2, 1) := by decide +kernel
theorem dX11_sayKnot_3 : decode cX11_sayKnot 3 = .ok (.iconst 4, 1) := by decide +kernel
theorem dX11_sayKnot_4 : decode cX11_sayKnot 4 = .ok (.if_icmp .ge 20, 3) := by decide +kernel
theorem dX11_sayKnot_7 : decode cX11_sayKnot 7 = .ok (.aload_n 0, 1) := by decide +kernel
theorem dX11_sayKnot_8 : decode cX11_sayKnot 8 = .ok (.aload_n 0, 1) := by decide +kernel
theorem dX11_sayKnot_9 : decode cX11_sayKnot 9 = .ok (.iload_n 1, 1) := by decide +kernel
theorem dX11_sayKnot_10 : decode cX11_sayKnot 10 = .ok (.iload_n 2, 1) := by decide +kernel
theorem dX11_sayKnot_11 : decode cX11_sayKnot 11 = .ok (.invokevirtual 160, 3) := by decide +kernel
theorem dX11_sayKnot_14 : decode cX11_sayKnot 14 = .ok (.i2l, 1) := by decide +kernel
theorem dX11_sayKnot_15 : decode cX11_sayKnot 15 = .ok (.invokevirtual 263, 3) := by decide +kernel
theorem dX11_sayKnot_18 : decode cX11_sayKnot 18 = .ok (.iinc 2 1, 3) := by decide +kernel
theorem dX11_sayKnot_21 : decode cX11_sayKnot 21 = .ok (.goto (-19), 3) := by decide +kernel
theorem dX11_sayKnot_24 : decode cX11_sayKnot 24 = .ok (.aload_n 0, 1) := by decide +kernel
theorem dX11_sayKnot_25 : decode cX11_sayKnot 25 = .ok (.aload_n 0, 1) := by decide +kernel
theorem dX11_sayKnot_26 : decode cX11_sayKnot 26 = .ok (.iload_n 1, 1) := by decide +kernel
theorem dX11_sayKnot_27 : decode cX11_sayKnot 27 = .ok (.iconst 0, 1) := by decide +kernel
theorem dX11_sayKnot_28 : decode cX11_sayKnot 28 = .ok (.invokevirtual 184, 3) := by decide +kernel
theorem dX11_sayKnot_31 : decode cX11_sayKnot 31 = .ok (.i2l, 1) := by decide +kernel
theorem dX11_sayKnot_32 : decode cX11_sayKnot 32 = .ok (.invokevirtual 263, 3) := by decide +kernel
theorem dX11_sayKnot_35 : decode cX11_sayKnot 35 = .ok (.aload_n 0, 1) := by decide +kernel
theorem dX11_sayKnot_36 : decode cX11_sayKnot 36 = .ok (.aload_n 0, 1) := by decide +kernel
theorem dX11_sayKnot_37 : decode cX11_sayKnot 37 = .ok (.iload_n 1, 1) := by decide +kernel
theorem dX11_sayKnot_38 : decode cX11_sayKnot 38 = .ok (.invokevirtual 198, 3) := by decide +kernel
theorem dX11_sayKnot_41 : decode cX11_sayKnot 41 = .ok (.i2l, 1) := by decide +kernel
theorem dX11_sayKnot_42 : decode cX11_sayKnot 42 = .ok (.invokevirtual 263, 3) := by decide +kernel
theorem dX11_sayKnot_45 : decode cX11_sayKnot 45 = .ok (.return_, 1) := by decide +kernel
set_option maxRecDepth 20000 in
theorem ggX11_digest_X11_tellGallery : GoodIn wsX11_digest wsX11_tellGallery := goodIn_r _ [11, 12, 13, 14, 15, 10, 16, 17, 18, 19, 20, 21, 22, 23, 24, 25, 26, 27, 28, 29, 30, 31, 32, 33, 34, 35, 36, 37, 38, 3, 39, 40, 41, 42, 102, 103, 104, 105, 106, 107, 108, 109, 110, 111, 112, 113, 114, 115, 116, 117, 118, 119, 120, 121, 122, 123, 124, 125, 126, 127, 128, 129, 130, 131, 132, 133, 134, 135, 136, 137] (by decide +kernel) (by decide +kernel)
set_option maxRecDepth 20000 in
theorem gX11_digest_X11_tellGallery : GoodIn wsX11_digest (wsV RX11 151 RX11 yX11_tellGallery wsX11_tellGallery) := goodIn_app (goodIn_of _ (by decide +kernel)) ggX11_digest_X11_tellGallery
set_option maxRecDepth 20000 in
theorem ggX11_digest_X11_say : GoodIn wsX11_digest wsX11_say := goodIn_r _ [46, 47, 2, 102, 103, 104, 105, 106, 107, 108, 109, 110, 111, 112, 113, 114, 115, 116, 117, 118, 119, 120, 121, 122, 123, 124, 125, 126, 127, 128, 129, 130, 131, 132, 133, 134, 135, 136, 137] (by decide +kernel) (by decide +kernel)
set_option maxRecDepth 20000 in
theorem gX11_digest_X11_say : GoodIn wsX11_digest (wsV RX11 263 RX11 yX11_say wsX11_say) := goodIn_app (goodIn_of _ (by decide +kernel)) ggX11_digest_X11_say
set_option maxRecDepth 20000 in
theorem ggX11_digest_X11_lacks : GoodIn wsX11_digest wsX11_lacks := goodIn_r _ [51, 3, 102, 103, 104, 105, 106, 107, 108, 109, 110, 111, 112, 113, 114, 115, 116, 117, 118, 119, 120, 121, 122, 123, 124, 125, 126, 127, 128, 129, 130, 131, 132, 133, 134, 135, 136, 137] (by decide +kernel) (by decide +kernel)
set_option maxRecDepth 20000 in
theorem gX11_digest_X11_lacks : GoodIn wsX11_digest (wsV RX11 104 RX11 yX11_lacks wsX11_lacks) := goodIn_app (goodIn_of _ (by decide +kernel)) ggX11_digest_X11_lacks
set_option maxRecDepth 20000 in
theorem ggX11_digest_X11_sayKnot : GoodIn wsX11_digest wsX11_sayKnot := goodIn_r _ [55, 56, 57, 58, 10, 59, 27, 22, 60, 18, 19, 20, 21, 23, 24, 25, 26, 28, 29, 30, 31, 32, 33, 34, 35, 36, 37, 38, 3, 12, 13, 14, 15, 16, 17, 61, 62, 63, 64, 65, 66, 67, 68, 39, 40, 41, 42, 43, 44, 45, 46, 47, 2, 69, 70, 71, 72, 73, 74, 75, 76, 77, 78, 79, 80, 81, 102, 103, 104, 105, 106, 107, 108, 109, 110, 111, 112, 113, 114, 115, 116, 117, 118, 119, 120, 121, 122, 123, 124, 125, 126, 127, 128, 129, 130, 131, 132, 133, 134, 135, 136, 137] (by decide +kernel) (by decide +kernel)
set_option maxRecDepth 20000 in
theorem gX11_digest_X11_sayKnot : GoodIn wsX11_digest (wsV RX11 269 RX11 yX11_sayKnot wsX11_sayKnot) := goodIn_app (goodIn_of _ (by decide +kernel)) ggX11_digest_X11_sayKnot
set_option maxRecDepth 20000 in
theorem ggX11_digest_X11_tellMan : GoodIn wsX11_digest wsX11_tellMan := goodIn_r _ [85, 86, 87, 88, 89, 10, 90, 91, 92, 93, 94, 102, 103, 104, 105, 106, 107, 108, 109, 110, 111, 112, 113, 114, 115, 116, 117, 118, 119, 120, 121, 122, 123, 124, 125, 126, 127, 128, 129, 130, 131, 132, 133, 134, 135, 136, 137] (by decide +kernel) (by decide +kernel)
set_option maxRecDepth 20000 in
theorem gX11_digest_X11_tellMan : GoodIn wsX11_digest (wsV RX11 173 RX11 yX11_tellMan wsX11_tellMan) := goodIn_app (goodIn_of _ (by decide +kernel)) ggX11_digest_X11_tellMan
set_option maxRecDepth 20000 in
theorem ggX11_digest_X11_countOf : GoodIn wsX11_digest wsX11_countOf := goodIn_r _ [98, 3, 12, 27, 4, 34, 99, 5, 100, 101, 48, 49, 50, 10, 51, 102, 103, 104, 105, 106, 107, 108, 109, 110, 111, 112, 113, 114, 115, 116, 117, 118, 119, 120, 121, 122, 123, 124, 125, 126, 127, 128, 129, 130, 131, 132, 133, 134, 135, 136, 137] (by decide +kernel) (by decide +kernel)
set_option maxRecDepth 20000 in
theorem gX11_digest_X11_countOf : GoodIn wsX11_digest (wsV RX11 254 RX11 yX11_countOf wsX11_countOf) := goodIn_app (goodIn_of _ (by decide +kernel)) ggX11_digest_X11_countOf
theorem dX11_digest_0 : decode cX11_digest 0 = .ok (.aload_n 0, 1) := by decide +kernel
theorem dX11_digest_1 : decode cX11_digest 1 = .ok (.ldc2_w 267, 3) := by decide +kernel
theorem dX11_digest_4 : decode cX11_digest 4 = .ok (.putfield 259, 3) := by decide +kernel
theorem dX11_digest_7 : decode cX11_digest 7 = .ok (.iconst 0, 1) := by decide +kernel
theorem dX11_digest_8 : decode cX11_digest 8 = .ok (.istore_n 1, 1) := by decide +kernel
theorem dX11_digest_9 : decode cX11_digest 9 = .ok (.iload_n 1, 1) := by decide +kernel
theorem dX11_digest_10 : decode cX11_digest 10 = .ok (.aload_n 0, 1) := by decide +kernel
theorem dX11_digest_11 : decode cX11_digest 11 = .ok (.getfield 101, 3) := by decide +kernel
theorem dX11_digest_14 : decode cX11_digest 14 = .ok (.if_icmp .ge 34, 3) := by decide +kernel
theorem dX11_digest_17 : decode cX11_digest 17 = .ok (.iconst 0, 1) := by decide +kernel
theorem dX11_digest_18 : decode cX11_digest 18 = .ok (.istore_n 2, 1) := by decide +kernel
theorem dX11_digest_19 : decode cX11_digest 19 = .ok (.iload_n 2, 1) := by decide +kernel
theorem dX11_digest_20 : decode cX11_digest 20 = .ok (.bipush 6, 2) := by decide +kernel
theorem dX11_digest_22 : decode cX11_digest 22 = .ok (.if_icmp .ge 20, 3) := by decide +kernel
theorem dX11_digest_25 : decode cX11_digest 25 = .ok (.aload_n 0, 1) := by decide +kernel
theorem dX11_digest_26 : decode cX11_digest 26 = .ok (.aload_n 0, 1) := by decide +kernel
theorem dX11_digest_27 : decode cX11_digest 27 = .ok (.iload_n 1, 1) := by decide +kernel
theorem dX11_digest_28 : decode cX11_digest 28 = .ok (.iload_n 2, 1) := by decide +kernel
theorem dX11_digest_29 : decode cX11_digest 29 = .ok (.invokevirtual 151, 3) := by decide +kernel
theorem dX11_digest_32 : decode cX11_digest 32 = .ok (.i2l, 1) := by decide +kernel
theorem dX11_digest_33 : decode cX11_digest 33 = .ok (.invokevirtual 263, 3) := by decide +kernel
theorem dX11_digest_36 : decode cX11_digest 36 = .ok (.iinc 2 1, 3) := by decide +kernel
theorem dX11_digest_39 : decode cX11_digest 39 = .ok (.goto (-20), 3) := by decide +kernel
theorem dX11_digest_42 : decode cX11_digest 42 = .ok (.iinc 1 1, 3) := by decide +kernel
theorem dX11_digest_45 : decode cX11_digest 45 = .ok (.goto (-36), 3) := by decide +kernel
theorem dX11_digest_48 : decode cX11_digest 48 = .ok (.iconst 0, 1) := by decide +kernel
theorem dX11_digest_49 : decode cX11_digest 49 = .ok (.istore_n 1, 1) := by decide +kernel
theorem dX11_digest_50 : decode cX11_digest 50 = .ok (.iload_n 1, 1) := by decide +kernel
theorem dX11_digest_51 : decode cX11_digest 51 = .ok (.bipush 7, 2) := by decide +kernel
theorem dX11_digest_53 : decode cX11_digest 53 = .ok (.if_icmp .ge 21, 3) := by decide +kernel
theorem dX11_digest_56 : decode cX11_digest 56 = .ok (.aload_n 0, 1) := by decide +kernel
theorem dX11_digest_57 : decode cX11_digest 57 = .ok (.invokevirtual 104, 3) := by decide +kernel
theorem dX11_digest_60 : decode cX11_digest 60 = .ok (.ifCond .ne 14, 3) := by decide +kernel
theorem dX11_digest_63 : decode cX11_digest 63 = .ok (.aload_n 0, 1) := by decide +kernel
theorem dX11_digest_64 : decode cX11_digest 64 = .ok (.iload_n 1, 1) := by decide +kernel
theorem dX11_digest_65 : decode cX11_digest 65 = .ok (.invokevirtual 269, 3) := by decide +kernel
theorem dX11_digest_68 : decode cX11_digest 68 = .ok (.iinc 1 1, 3) := by decide +kernel
theorem dX11_digest_71 : decode cX11_digest 71 = .ok (.goto (-21), 3) := by decide +kernel
theorem dX11_digest_74 : decode cX11_digest 74 = .ok (.iconst 0, 1) := by decide +kernel
theorem dX11_digest_75 : decode cX11_digest 75 = .ok (.istore_n 1, 1) := by decide +kernel
theorem dX11_digest_76 : decode cX11_digest 76 = .ok (.iload_n 1, 1) := by decide +kernel
theorem dX11_digest_77 : decode cX11_digest 77 = .ok (.aload_n 0, 1) := by decide +kernel
theorem dX11_digest_78 : decode cX11_digest 78 = .ok (.getfield 117, 3) := by decide +kernel
theorem dX11_digest_81 : decode cX11_digest 81 = .ok (.if_icmp .ge 33, 3) := by decide +kernel
theorem dX11_digest_84 : decode cX11_digest 84 = .ok (.iconst 0, 1) := by decide +kernel
theorem dX11_digest_85 : decode cX11_digest 85 = .ok (.istore_n 2, 1) := by decide +kernel
theorem dX11_digest_86 : decode cX11_digest 86 = .ok (.iload_n 2, 1) := by decide +kernel
theorem dX11_digest_87 : decode cX11_digest 87 = .ok (.iconst 4, 1) := by decide +kernel
theorem dX11_digest_88 : decode cX11_digest 88 = .ok (.if_icmp .ge 20, 3) := by decide +kernel
theorem dX11_digest_91 : decode cX11_digest 91 = .ok (.aload_n 0, 1) := by decide +kernel
theorem dX11_digest_92 : decode cX11_digest 92 = .ok (.aload_n 0, 1) := by decide +kernel
theorem dX11_digest_93 : decode cX11_digest 93 = .ok (.iload_n 1, 1) := by decide +kernel
theorem dX11_digest_94 : decode cX11_digest 94 = .ok (.iload_n 2, 1) := by decide +kernel
theorem dX11_digest_95 : decode cX11_digest 95 = .ok (.invokevirtual 173, 3) := by decide +kernel
theorem dX11_digest_98 : decode cX11_digest 98 = .ok (.i2l, 1) := by decide +kernel
theorem dX11_digest_99 : decode cX11_digest 99 = .ok (.invokevirtual 263, 3) := by decide +kernel
theorem dX11_digest_102 : decode cX11_digest 102 = .ok (.iinc 2 1, 3) := by decide +kernel
theorem dX11_digest_105 : decode cX11_digest 105 = .ok (.goto (-19), 3) := by decide +kernel
theorem dX11_digest_108 : decode cX11_digest 108 = .ok (.iinc 1 1, 3) := by decide +kernel
theorem dX11_digest_111 : decode cX11_digest 111 = .ok (.goto (-35), 3) := by decide +kernel
theorem dX11_digest_114 : decode cX11_digest 114 = .ok (.iconst 0, 1) := by decide +kernel
theorem dX11_digest_115 : decode cX11_digest 115 = .ok (.istore_n 1, 1) := by decide +kernel
theorem dX11_digest_116 : decode cX11_digest 116 = .ok (.iload_n 1, 1) := by decide +kernel
theorem dX11_digest_117 : decode cX11_digest 117 = .ok (.aload_n 0, 1) := by decide +kernel
theorem dX11_digest_118 : decode cX11_digest 118 = .ok (.getfield 67, 3) := by decide +kernel
theorem dX11_digest_121 : decode cX11_digest 121 = .ok (.if_icmp .ge 20, 3) := by decide +kernel
theorem dX11_digest_124 : decode cX11_digest 124 = .ok (.aload_n 0, 1) := by decide +kernel
theorem dX11_digest_125 : decode cX11_digest 125 = .ok (.aload_n 0, 1) := by decide +kernel
theorem dX11_digest_126 : decode cX11_digest 126 = .ok (.getfield 7, 3) := by decide +kernel
theorem dX11_digest_129 : decode cX11_digest 129 = .ok (.iload_n 1, 1) := by decide +kernel
theorem dX11_digest_130 : decode cX11_digest 130 = .ok (.iaload, 1) := by decide +kernel
theorem dX11_digest_131 : decode cX11_digest 131 = .ok (.i2l, 1) := by decide +kernel
theorem dX11_digest_132 : decode cX11_digest 132 = .ok (.invokevirtual 263, 3) := by decide +kernel
theorem dX11_digest_135 : decode cX11_digest 135 = .ok (.iinc 1 1, 3) := by decide +kernel
theorem dX11_digest_138 : decode cX11_digest 138 = .ok (.goto (-22), 3) := by decide +kernel
theorem dX11_digest_141 : decode cX11_digest 141 = .ok (.iconst 0, 1) := by decide +kernel
theorem dX11_digest_142 : decode cX11_digest 142 = .ok (.istore_n 1, 1) := by decide +kernel
theorem dX11_digest_143 : decode cX11_digest 143 = .ok (.iload_n 1, 1) := by decide +kernel
theorem dX11_digest_144 : decode cX11_digest 144 = .ok (.bipush 9, 2) := by decide +kernel
theorem dX11_digest_146 : decode cX11_digest 146 = .ok (.if_icmp .ge 19, 3) := by decide +kernel
theorem dX11_digest_149 : decode cX11_digest 149 = .ok (.aload_n 0, 1) := by decide +kernel
theorem dX11_digest_150 : decode cX11_digest 150 = .ok (.aload_n 0, 1) := by decide +kernel
theorem dX11_digest_151 : decode cX11_digest 151 = .ok (.iload_n 1, 1) := by decide +kernel
theorem dX11_digest_152 : decode cX11_digest 152 = .ok (.invokevirtual 254, 3) := by decide +kernel
theorem dX11_digest_155 : decode cX11_digest 155 = .ok (.i2l, 1) := by decide +kernel
theorem dX11_digest_156 : decode cX11_digest 156 = .ok (.invokevirtual 263, 3) := by decide +kernel
theorem dX11_digest_159 : decode cX11_digest 159 = .ok (.iinc 1 1, 3) := by decide +kernel
theorem dX11_digest_162 : decode cX11_digest 162 = .ok (.goto (-19), 3) := by decide +kernel
theorem dX11_digest_165 : decode cX11_digest 165 = .ok (.aload_n 0, 1) := by decide +kernel
theorem dX11_digest_166 : decode cX11_digest 166 = .ok (.getfield 259, 3) := by decide +kernel
theorem dX11_digest_169 : decode cX11_digest 169 = .ok (.lreturn, 1) := by decide +kernel
theorem dJ6_numberOfTrailingZeros_0f7a4_0 : decode cJ6_numberOfTrailingZeros_0f7a4 0 = .ok (.iload_n 0, 1) := by decide +kernel
theorem dJ6_numberOfTrailingZeros_0f7a4_1 : decode cJ6_numberOfTrailingZeros_0f7a4 1 = .ok (.iconst (-1), 1) := by decide +kernel
theorem dJ6_numberOfTrailingZeros_0f7a4_2 : decode cJ6_numberOfTrailingZeros_0f7a4 2 = .ok (.ixor, 1) := by decide +kernel
theorem dJ6_numberOfTrailingZeros_0f7a4_3 : decode cJ6_numberOfTrailingZeros_0f7a4 3 = .ok (.iload_n 0, 1) := by decide +kernel
theorem dJ6_numberOfTrailingZeros_0f7a4_4 : decode cJ6_numberOfTrailingZeros_0f7a4 4 = .ok (.iconst 1, 1) := by decide +kernel
theorem dJ6_numberOfTrailingZeros_0f7a4_5 : decode cJ6_numberOfTrailingZeros_0f7a4 5 = .ok (.isub, 1) := by decide +kernel
theorem dJ6_numberOfTrailingZeros_0f7a4_6 : decode cJ6_numberOfTrailingZeros_0f7a4 6 = .ok (.iand, 1) := by decide +kernel
theorem dJ6_numberOfTrailingZeros_0f7a4_7 : decode cJ6_numberOfTrailingZeros_0f7a4 7 = .ok (.istore_n 0, 1) := by decide +kernel
theorem dJ6_numberOfTrailingZeros_0f7a4_8 : decode cJ6_numberOfTrailingZeros_0f7a4 8 = .ok (.iload_n 0, 1) := by decide +kernel
theorem dJ6_numberOfTrailingZeros_0f7a4_9 : decode cJ6_numberOfTrailingZeros_0f7a4 9 = .ok (.ifCond .gt 8, 3) := by decide +kernel
theorem dJ6_numberOfTrailingZeros_0f7a4_12 : decode cJ6_numberOfTrailingZeros_0f7a4 12 = .ok (.iload_n 0, 1) := by decide +kernel
theorem dJ6_numberOfTrailingZeros_0f7a4_13 : decode cJ6_numberOfTrailingZeros_0f7a4 13 = .ok (.bipush 32, 2) := by decide +kernel
theorem dJ6_numberOfTrailingZeros_0f7a4_15 : decode cJ6_numberOfTrailingZeros_0f7a4 15 = .ok (.iand, 1) := by decide +kernel
theorem dJ6_numberOfTrailingZeros_0f7a4_16 : decode cJ6_numberOfTrailingZeros_0f7a4 16 = .ok (.ireturn, 1) := by decide +kernel
theorem dJ6_numberOfTrailingZeros_0f7a4_17 : decode cJ6_numberOfTrailingZeros_0f7a4 17 = .ok (.iconst 1, 1) := by decide +kernel
theorem dJ6_numberOfTrailingZeros_0f7a4_18 : decode cJ6_numberOfTrailingZeros_0f7a4 18 = .ok (.istore_n 1, 1) := by decide +kernel
theorem dJ6_numberOfTrailingZeros_0f7a4_19 : decode cJ6_numberOfTrailingZeros_0f7a4 19 = .ok (.iload_n 0, 1) := by decide +kernel
theorem dJ6_numberOfTrailingZeros_0f7a4_20 : decode cJ6_numberOfTrailingZeros_0f7a4 20 = .ok (.ldc_w 264, 3) := by decide +kernel
theorem dJ6_numberOfTrailingZeros_0f7a4_23 : decode cJ6_numberOfTrailingZeros_0f7a4 23 = .ok (.if_icmp .le 11, 3) := by decide +kernel
theorem dJ6_numberOfTrailingZeros_0f7a4_26 : decode cJ6_numberOfTrailingZeros_0f7a4 26 = .ok (.iinc 1 16, 3) := by decide +kernel
theorem dJ6_numberOfTrailingZeros_0f7a4_29 : decode cJ6_numberOfTrailingZeros_0f7a4 29 = .ok (.iload_n 0, 1) := by decide +kernel
theorem dJ6_numberOfTrailingZeros_0f7a4_30 : decode cJ6_numberOfTrailingZeros_0f7a4 30 = .ok (.bipush 16, 2) := by decide +kernel
theorem dJ6_numberOfTrailingZeros_0f7a4_32 : decode cJ6_numberOfTrailingZeros_0f7a4 32 = .ok (.iushr, 1) := by decide +kernel
theorem dJ6_numberOfTrailingZeros_0f7a4_33 : decode cJ6_numberOfTrailingZeros_0f7a4 33 = .ok (.istore_n 0, 1) := by decide +kernel
theorem dJ6_numberOfTrailingZeros_0f7a4_34 : decode cJ6_numberOfTrailingZeros_0f7a4 34 = .ok (.iload_n 0, 1) := by decide +kernel
theorem dJ6_numberOfTrailingZeros_0f7a4_35 : decode cJ6_numberOfTrailingZeros_0f7a4 35 = .ok (.sipush 256, 3) := by decide +kernel
theorem dJ6_numberOfTrailingZeros_0f7a4_38 : decode cJ6_numberOfTrailingZeros_0f7a4 38 = .ok (.if_icmp .le 11, 3) := by decide +kernel
theorem dJ6_numberOfTrailingZeros_0f7a4_41 : decode cJ6_numberOfTrailingZeros_0f7a4 41 = .ok (.iinc 1 8, 3) := by decide +kernel
theorem dJ6_numberOfTrailingZeros_0f7a4_44 : decode cJ6_numberOfTrailingZeros_0f7a4 44 = .ok (.iload_n 0, 1) := by decide +kernel
theorem dJ6_numberOfTrailingZeros_0f7a4_45 : decode cJ6_numberOfTrailingZeros_0f7a4 45 = .ok (.bipush 8, 2) := by decide +kernel
theorem dJ6_numberOfTrailingZeros_0f7a4_47 : decode cJ6_numberOfTrailingZeros_0f7a4 47 = .ok (.iushr, 1) := by decide +kernel
theorem dJ6_numberOfTrailingZeros_0f7a4_48 : decode cJ6_numberOfTrailingZeros_0f7a4 48 = .ok (.istore_n 0, 1) := by decide +kernel
theorem dJ6_numberOfTrailingZeros_0f7a4_49 : decode cJ6_numberOfTrailingZeros_0f7a4 49 = .ok (.iload_n 0, 1) := by decide +kernel
theorem dJ6_numberOfTrailingZeros_0f7a4_50 : decode cJ6_numberOfTrailingZeros_0f7a4 50 = .ok (.bipush 16, 2) := by decide +kernel
theorem dJ6_numberOfTrailingZeros_0f7a4_52 : decode cJ6_numberOfTrailingZeros_0f7a4 52 = .ok (.if_icmp .le 10, 3) := by decide +kernel
theorem dJ6_numberOfTrailingZeros_0f7a4_55 : decode cJ6_numberOfTrailingZeros_0f7a4 55 = .ok (.iinc 1 4, 3) := by decide +kernel
theorem dJ6_numberOfTrailingZeros_0f7a4_58 : decode cJ6_numberOfTrailingZeros_0f7a4 58 = .ok (.iload_n 0, 1) := by decide +kernel
theorem dJ6_numberOfTrailingZeros_0f7a4_59 : decode cJ6_numberOfTrailingZeros_0f7a4 59 = .ok (.iconst 4, 1) := by decide +kernel
theorem dJ6_numberOfTrailingZeros_0f7a4_60 : decode cJ6_numberOfTrailingZeros_0f7a4 60 = .ok (.iushr, 1) := by decide +kernel
theorem dJ6_numberOfTrailingZeros_0f7a4_61 : decode cJ6_numberOfTrailingZeros_0f7a4 61 = .ok (.istore_n 0, 1) := by decide +kernel
theorem dJ6_numberOfTrailingZeros_0f7a4_62 : decode cJ6_numberOfTrailingZeros_0f7a4 62 = .ok (.iload_n 0, 1) := by decide +kernel
theorem dJ6_numberOfTrailingZeros_0f7a4_63 : decode cJ6_numberOfTrailingZeros_0f7a4 63 = .ok (.iconst 4, 1) := by decide +kernel
theorem dJ6_numberOfTrailingZeros_0f7a4_64 : decode cJ6_numberOfTrailingZeros_0f7a4 64 = .ok (.if_icmp .le 10, 3) := by decide +kernel
theorem dJ6_numberOfTrailingZeros_0f7a4_67 : decode cJ6_numberOfTrailingZeros_0f7a4 67 = .ok (.iinc 1 2, 3) := by decide +kernel
theorem dJ6_numberOfTrailingZeros_0f7a4_70 : decode cJ6_numberOfTrailingZeros_0f7a4 70 = .ok (.iload_n 0, 1) := by decide +kernel
theorem dJ6_numberOfTrailingZeros_0f7a4_71 : decode cJ6_numberOfTrailingZeros_0f7a4 71 = .ok (.iconst 2, 1) := by decide +kernel
theorem dJ6_numberOfTrailingZeros_0f7a4_72 : decode cJ6_numberOfTrailingZeros_0f7a4 72 = .ok (.iushr, 1) := by decide +kernel
theorem dJ6_numberOfTrailingZeros_0f7a4_73 : decode cJ6_numberOfTrailingZeros_0f7a4 73 = .ok (.istore_n 0, 1) := by decide +kernel
theorem dJ6_numberOfTrailingZeros_0f7a4_74 : decode cJ6_numberOfTrailingZeros_0f7a4 74 = .ok (.iload_n 1, 1) := by decide +kernel
theorem dJ6_numberOfTrailingZeros_0f7a4_75 : decode cJ6_numberOfTrailingZeros_0f7a4 75 = .ok (.iload_n 0, 1) := by decide +kernel
theorem dJ6_numberOfTrailingZeros_0f7a4_76 : decode cJ6_numberOfTrailingZeros_0f7a4 76 = .ok (.iconst 1, 1) := by decide +kernel
theorem dJ6_numberOfTrailingZeros_0f7a4_77 : decode cJ6_numberOfTrailingZeros_0f7a4 77 = .ok (.iushr, 1) := by decide +kernel
theorem dJ6_numberOfTrailingZeros_0f7a4_78 : decode cJ6_numberOfTrailingZeros_0f7a4 78 = .ok (.iadd, 1) := by decide +kernel
theorem dJ6_numberOfTrailingZeros_0f7a4_79 : decode cJ6_numberOfTrailingZeros_0f7a4 79 = .ok (.ireturn, 1) := by decide +kernel
theorem dJ6_bitCount_0f7a4_0 : decode cJ6_bitCount_0f7a4 0 = .ok (.iload_n 0, 1) := by decide +kernel
theorem dJ6_bitCount_0f7a4_1 : decode cJ6_bitCount_0f7a4 1 = .ok (.iload_n 0, 1) := by decide +kernel
theorem dJ6_bitCount_0f7a4_2 : decode cJ6_bitCount_0f7a4 2 = .ok (.iconst 1, 1) := by decide +kernel
theorem dJ6_bitCount_0f7a4_3 : decode cJ6_bitCount_0f7a4 3 = .ok (.iushr, 1) := by decide +kernel
theorem dJ6_bitCount_0f7a4_4 : decode cJ6_bitCount_0f7a4 4 = .ok (.ldc_w 265, 3) := by decide +kernel
theorem dJ6_bitCount_0f7a4_7 : decode cJ6_bitCount_0f7a4 7 = .ok (.iand, 1) := by decide +kernel
theorem dJ6_bitCount_0f7a4_8 : decode cJ6_bitCount_0f7a4 8 = .ok (.isub, 1) := by decide +kernel
theorem dJ6_bitCount_0f7a4_9 : decode cJ6_bitCount_0f7a4 9 = .ok (.istore_n 0, 1) := by decide +kernel
theorem dJ6_bitCount_0f7a4_10 : decode cJ6_bitCount_0f7a4 10 = .ok (.iload_n 0, 1) := by decide +kernel
theorem dJ6_bitCount_0f7a4_11 : decode cJ6_bitCount_0f7a4 11 = .ok (.ldc_w 266, 3) := by decide +kernel
theorem dJ6_bitCount_0f7a4_14 : decode cJ6_bitCount_0f7a4 14 = .ok (.iand, 1) := by decide +kernel
theorem dJ6_bitCount_0f7a4_15 : decode cJ6_bitCount_0f7a4 15 = .ok (.iload_n 0, 1) := by decide +kernel
theorem dJ6_bitCount_0f7a4_16 : decode cJ6_bitCount_0f7a4 16 = .ok (.iconst 2, 1) := by decide +kernel
theorem dJ6_bitCount_0f7a4_17 : decode cJ6_bitCount_0f7a4 17 = .ok (.iushr, 1) := by decide +kernel
theorem dJ6_bitCount_0f7a4_18 : decode cJ6_bitCount_0f7a4 18 = .ok (.ldc_w 266, 3) := by decide +kernel
theorem dJ6_bitCount_0f7a4_21 : decode cJ6_bitCount_0f7a4 21 = .ok (.iand, 1) := by decide +kernel
theorem dJ6_bitCount_0f7a4_22 : decode cJ6_bitCount_0f7a4 22 = .ok (.iadd, 1) := by decide +kernel
theorem dJ6_bitCount_0f7a4_23 : decode cJ6_bitCount_0f7a4 23 = .ok (.istore_n 0, 1) := by decide +kernel
theorem dJ6_bitCount_0f7a4_24 : decode cJ6_bitCount_0f7a4 24 = .ok (.iload_n 0, 1) := by decide +kernel
theorem dJ6_bitCount_0f7a4_25 : decode cJ6_bitCount_0f7a4 25 = .ok (.iload_n 0, 1) := by decide +kernel
theorem dJ6_bitCount_0f7a4_26 : decode cJ6_bitCount_0f7a4 26 = .ok (.iconst 4, 1) := by decide +kernel
theorem dJ6_bitCount_0f7a4_27 : decode cJ6_bitCount_0f7a4 27 = .ok (.iushr, 1) := by decide +kernel
theorem dJ6_bitCount_0f7a4_28 : decode cJ6_bitCount_0f7a4 28 = .ok (.iadd, 1) := by decide +kernel
theorem dJ6_bitCount_0f7a4_29 : decode cJ6_bitCount_0f7a4 29 = .ok (.ldc_w 267, 3) := by decide +kernel
theorem dJ6_bitCount_0f7a4_32 : decode cJ6_bitCount_0f7a4 32 = .ok (.iand, 1) := by decide +kernel
theorem dJ6_bitCount_0f7a4_33 : decode cJ6_bitCount_0f7a4 33 = .ok (.istore_n 0, 1) := by decide +kernel
theorem dJ6_bitCount_0f7a4_34 : decode cJ6_bitCount_0f7a4 34 = .ok (.iload_n 0, 1) := by decide +kernel
theorem dJ6_bitCount_0f7a4_35 : decode cJ6_bitCount_0f7a4 35 = .ok (.iload_n 0, 1) := by decide +kernel
theorem dJ6_bitCount_0f7a4_36 : decode cJ6_bitCount_0f7a4 36 = .ok (.bipush 8, 2) := by decide +kernel
theorem dJ6_bitCount_0f7a4_38 : decode cJ6_bitCount_0f7a4 38 = .ok (.iushr, 1) := by decide +kernel
theorem dJ6_bitCount_0f7a4_39 : decode cJ6_bitCount_0f7a4 39 = .ok (.iadd, 1) := by decide +kernel
theorem dJ6_bitCount_0f7a4_40 : decode cJ6_bitCount_0f7a4 40 = .ok (.istore_n 0, 1) := by decide +kernel
theorem dJ6_bitCount_0f7a4_41 : decode cJ6_bitCount_0f7a4 41 = .ok (.iload_n 0, 1) := by decide +kernel
theorem dJ6_bitCount_0f7a4_42 : decode cJ6_bitCount_0f7a4 42 = .ok (.iload_n 0, 1) := by decide +kernel
theorem dJ6_bitCount_0f7a4_43 : decode cJ6_bitCount_0f7a4 43 = .ok (.bipush 16, 2) := by decide +kernel
theorem dJ6_bitCount_0f7a4_45 : decode cJ6_bitCount_0f7a4 45 = .ok (.iushr, 1) := by decide +kernel
theorem dJ6_bitCount_0f7a4_46 : decode cJ6_bitCount_0f7a4 46 = .ok (.iadd, 1) := by decide +kernel
theorem dJ6_bitCount_0f7a4_47 : decode cJ6_bitCount_0f7a4 47 = .ok (.istore_n 0, 1) := by decide +kernel
theorem dJ6_bitCount_0f7a4_48 : decode cJ6_bitCount_0f7a4 48 = .ok (.iload_n 0, 1) := by decide +kernel
theorem dJ6_bitCount_0f7a4_49 : decode cJ6_bitCount_0f7a4 49 = .ok (.bipush 63, 2) := by decide +kernel
theorem dJ6_bitCount_0f7a4_51 : decode cJ6_bitCount_0f7a4 51 = .ok (.iand, 1) := by decide +kernel
theorem dJ6_bitCount_0f7a4_52 : decode cJ6_bitCount_0f7a4 52 = .ok (.ireturn, 1) := by decide +kernel
theorem dJ9_max_7cf53_0 : decode cJ9_max_7cf53 0 = .ok (.iload_n 0, 1) := by decide +kernel
theorem dJ9_max_7cf53_1 : decode cJ9_max_7cf53 1 = .ok (.iload_n 1, 1) := by decide +kernel
theorem dJ9_max_7cf53_2 : decode cJ9_max_7cf53 2 = .ok (.if_icmp .lt 7, 3) := by decide +kernel
theorem dJ9_max_7cf53_5 : decode cJ9_max_7cf53 5 = .ok (.iload_n 0, 1) := by decide +kernel
theorem dJ9_max_7cf53_6 : decode cJ9_max_7cf53 6 = .ok (.goto 4, 3) := by decide +kernel
theorem dJ9_max_7cf53_9 : decode cJ9_max_7cf53 9 = .ok (.iload_n 1, 1) := by decide +kernel
theorem dJ9_max_7cf53_10 : decode cJ9_max_7cf53 10 = .ok (.ireturn, 1) := by decide +kernel
theorem dJ9_min_7cf53_0 : decode cJ9_min_7cf53 0 = .ok (.iload_n 0, 1) := by decide +kernel
theorem dJ9_min_7cf53_1 : decode cJ9_min_7cf53 1 = .ok (.iload_n 1, 1) := by decide +kernel
theorem dJ9_min_7cf53_2 : decode cJ9_min_7cf53 2 = .ok (.if_icmp .gt 7, 3) := by decide +kernel
theorem dJ9_min_7cf53_5 : decode cJ9_min_7cf53 5 = .ok (.iload_n 0, 1) := by decide +kernel
theorem dJ9_min_7cf53_6 : decode cJ9_min_7cf53 6 = .ok (.goto 4, 3) := by decide +kernel
theorem dJ9_min_7cf53_9 : decode cJ9_min_7cf53 9 = .ok (.iload_n 1, 1) := by decide +kernel
theorem dJ9_min_7cf53_10 : decode cJ9_min_7cf53 10 = .ok (.ireturn, 1) := by decide +kernel
set_option maxRecDepth 20000 in
theorem ggL_law_X10_init : GoodIn wsL_law wsX10_init := goodIn_r _ [9, 10, 11, 12, 13, 14, 15, 16, 17, 18, 19, 20, 21, 22, 23, 24, 25, 26, 27, 28, 29, 30, 31, 32, 33, 34, 35, 36, 37, 38, 39, 40, 41, 42, 43, 44, 45, 46, 47, 48, 49, 50, 51, 52, 53, 54, 55, 56, 57, 58, 59, 60, 61, 62, 63, 64, 65, 66, 67, 68, 69, 70, 71, 72, 73, 74, 75, 76, 77, 78, 79, 80, 81, 82, 83, 84, 85, 86, 87, 88, 89, 90, 91, 92, 93, 94, 95, 96, 97, 98, 99, 100, 101, 102, 103, 104, 105, 106, 107, 108, 109, 110, 111, 112, 113, 114, 115, 116, 928, 929, 930, 877, 878, 879, 880, 881, 882, 883, 884, 885, 886, 887, 888, 889, 890, 891, 931, 932, 933, 934, 935, 936, 937, 938, 939, 940, 941, 942, 943, 944, 945, 946, 947, 948, 949, 950, 951, 952, 953, 954, 955, 956, 957, 958, 959, 960, 961] (by decide +kernel) (by decide +kernel)
set_option maxRecDepth 20000 in
theorem gL_law_X10_init : GoodIn wsL_law (wsX10_init) := ggL_law_X10_init
set_option maxRecDepth 20000 in
theorem ggL_law_X11_init : GoodIn wsL_law wsX11_init := goodIn_r _ [119, 120, 11, 12, 64, 121, 122, 123, 124, 125, 126, 127, 128, 129, 130, 131, 132, 133, 134, 135, 136, 137, 138, 892, 893, 894, 895, 896, 897, 898, 899, 900, 901, 902, 903, 904, 905, 906, 907, 908, 909, 910, 911, 912, 913, 914, 915, 916, 917, 918, 919, 920, 921, 922, 923, 924, 925, 926, 927] (by decide +kernel) (by decide +kernel)
set_option maxRecDepth 20000 in
theorem gL_law_X11_init : GoodIn wsL_law (wsX11_init) := ggL_law_X11_init
set_option maxRecDepth 20000 in
theorem ggL_law_X10_letters : GoodIn wsL_law wsX10_letters := goodIn_r _ [142, 16, 143, 144, 145, 15, 146, 147, 148, 149, 150, 151, 152, 153, 154, 55, 155, 156, 157, 158, 54, 159, 65, 877, 878, 879, 880, 881, 882, 883, 884, 885, 886, 887, 888, 889, 890, 891, 928, 929, 930, 957] (by decide +kernel) (by decide +kernel)
set_option maxRecDepth 20000 in
theorem gL_law_X10_letters : GoodIn wsL_law (wsV RL 15 RX10 yX10_letters wsX10_letters) := goodIn_app (goodIn_of _ (by decide +kernel)) ggL_law_X10_letters
set_option maxRecDepth 20000 in
theorem ggL_law_X11_letters : GoodIn wsL_law wsX11_letters := goodIn_r _ [163, 164, 165, 121, 892, 893, 894, 895, 896, 897, 898, 899, 900, 901, 902, 903, 904, 905, 906, 907, 908, 909, 910, 911, 912, 913, 914, 915, 916, 917, 918, 919, 920, 921, 922, 923, 924, 925, 926, 927] (by decide +kernel) (by decide +kernel)
set_option maxRecDepth 20000 in
theorem gL_law_X11_letters : GoodIn wsL_law (wsV RL 19 RX11 yX11_letters wsX11_letters) := goodIn_app (goodIn_of _ (by decide +kernel)) ggL_law_X11_letters
set_option maxRecDepth 20000 in
theorem ggL_law_X10_blank : GoodIn wsL_law wsX10_blank := goodIn_r _ [169, 16, 143, 877, 878, 879, 880, 881, 882, 883, 884, 885, 886, 887, 888, 889, 890, 891, 928, 929, 930] (by decide +kernel) (by decide +kernel)
set_option maxRecDepth 20000 in
theorem gL_law_X10_blank : GoodIn wsL_law (wsV RL 20 RX10 yX10_blank wsX10_blank) := goodIn_app (goodIn_of _ (by decide +kernel)) ggL_law_X10_blank
set_option maxRecDepth 20000 in
theorem ggL_law_X11_blank : GoodIn wsL_law wsX11_blank := goodIn_r _ [173, 165, 892, 893, 894, 895, 896, 897, 898, 899, 900, 901, 902, 903, 904, 905, 906, 907, 908, 909, 910, 911, 912, 913, 914, 915, 916, 917, 918, 919, 920, 921, 922, 923, 924, 925, 926, 927] (by decide +kernel) (by decide +kernel)
set_option maxRecDepth 20000 in
theorem gL_law_X11_blank : GoodIn wsL_law (wsV RL 24 RX11 yX11_blank wsX11_blank) := goodIn_app (goodIn_of _ (by decide +kernel)) ggL_law_X11_blank
set_option maxRecDepth 20000 in
theorem ggL_law_X10_fault : GoodIn wsL_law wsX10_fault := goodIn_r _ [177, 16, 178, 179, 180, 15, 181, 59, 155, 55, 182, 183, 184, 58, 185, 186, 187, 188, 189, 190, 191, 54, 192, 65, 193, 194, 195, 196, 197, 198, 2, 199, 200, 201, 202, 203, 204, 205, 206, 207, 208, 209, 877, 878, 879, 880, 881, 882, 883, 884, 885, 886, 887, 888, 889, 890, 891, 928, 929, 930, 958, 959, 960, 961, 957] (by decide +kernel) (by decide +kernel)
set_option maxRecDepth 20000 in
theorem gL_law_X10_fault : GoodIn wsL_law (wsV RL 25 RX10 yX10_fault wsX10_fault) := goodIn_app (goodIn_of _ (by decide +kernel)) ggL_law_X10_fault
set_option maxRecDepth 20000 in
theorem ggL_law_X11_fault : GoodIn wsL_law wsX11_fault := goodIn_r _ [213, 214, 215, 216, 5, 217, 123, 218, 219, 220, 165, 121, 221, 222, 223, 224, 122, 225, 226, 227, 228, 229, 230, 231, 232, 233, 234, 892, 893, 894, 895, 896, 897, 898, 899, 900, 901, 902, 903, 904, 905, 906, 907, 908, 909, 910, 911, 912, 913, 914, 915, 916, 917, 918, 919, 920, 921, 922, 923, 924, 925, 926, 927] (by decide +kernel) (by decide +kernel)
set_option maxRecDepth 20000 in
theorem gL_law_X11_fault : GoodIn wsL_law (wsV RL 28 RX11 yX11_fault wsX11_fault) := goodIn_app (goodIn_of _ (by decide +kernel)) ggL_law_X11_fault
set_option maxRecDepth 20000 in
theorem ggL_law_X10_mine : GoodIn wsL_law wsX10_mine := goodIn_r _ [238, 16, 20, 143, 33, 239, 37, 240, 241, 242, 243, 244, 15, 245, 155, 59, 246, 179, 180, 181, 55, 182, 183, 184, 58, 185, 186, 187, 188, 189, 190, 191, 54, 192, 65, 193, 194, 195, 196, 197, 198, 2, 199, 200, 201, 202, 203, 204, 205, 206, 207, 208, 209, 247, 248, 249, 250, 251, 252, 253, 254, 255, 256, 257, 258, 259, 260, 19, 261, 262, 263, 264, 73, 74, 75, 265, 266, 267, 268, 269, 270, 157, 158, 159, 271, 272, 273, 274, 76, 275, 276, 277, 278, 279, 280, 281, 282, 283, 284, 285, 286, 287, 36, 288, 289, 290, 102, 291, 292, 293, 294, 295, 296, 297, 24, 298, 299, 29, 300, 301, 302, 23, 303, 82, 84, 304, 305, 306, 307, 308, 309, 310, 311, 312, 313, 314, 315, 316, 317, 318, 319, 320, 321, 322, 323, 324, 325, 326, 327, 328, 329, 330, 83, 331, 332, 333, 334, 335, 336, 337, 338, 339, 340, 341, 342, 28, 343, 90, 344, 345, 346, 347, 348, 349, 350, 351, 352, 353, 354, 355, 356, 357, 358, 359, 360, 361, 362, 363, 877, 878, 879, 880, 881, 882, 883, 884, 885, 886, 887, 888, 889, 890, 891, 928, 929, 930, 943, 944, 931, 932, 933, 934, 935, 936, 937, 958, 959, 960, 961, 957, 945, 946, 947, 948, 949, 950, 938, 939, 940, 941, 942] (by decide +kernel) (by decide +kernel)
set_option maxRecDepth 20000 in
theorem gL_law_X10_mine : GoodIn wsL_law (wsV RL 29 RX10 yX10_mine wsX10_mine) := goodIn_app (goodIn_of _ (by decide +kernel)) ggL_law_X10_mine
set_option maxRecDepth 20000 in
theorem ggL_law_X11_mine : GoodIn wsL_law wsX11_mine := goodIn_r _ [367, 165, 220, 219, 218, 368, 124, 122, 125, 123, 126, 369, 370, 371, 372, 373, 214, 215, 216, 5, 217, 121, 221, 222, 223, 224, 225, 226, 227, 228, 229, 230, 231, 232, 233, 234, 892, 893, 894, 895, 896, 897, 898, 899, 900, 901, 902, 903, 904, 905, 906, 907, 908, 909, 910, 911, 912, 913, 914, 915, 916, 917, 918, 919, 920, 921, 922, 923, 924, 925, 926, 927] (by decide +kernel) (by decide +kernel)
set_option maxRecDepth 20000 in
theorem gL_law_X11_mine : GoodIn wsL_law (wsV RL 32 RX11 yX11_mine wsX11_mine) := goodIn_app (goodIn_of _ (by decide +kernel)) ggL_law_X11_mine
set_option maxRecDepth 20000 in
theorem ggL_law_X10_gallery : GoodIn wsL_law wsX10_gallery := goodIn_r _ [377, 20, 378, 379, 380, 381, 37, 298, 24, 382, 383, 384, 385, 19, 386, 262, 387, 190, 191, 54, 192, 65, 388, 208, 2, 209, 877, 878, 879, 880, 881, 882, 883, 884, 885, 886, 887, 888, 889, 890, 891, 931, 932, 933, 934, 935, 936, 937, 945, 946, 947, 948, 949, 950, 938, 939, 940, 941, 957] (by decide +kernel) (by decide +kernel)
set_option maxRecDepth 20000 in
theorem gL_law_X10_gallery : GoodIn wsL_law (wsV RL 33 RX10 yX10_gallery wsX10_gallery) := goodIn_app (goodIn_of _ (by decide +kernel)) ggL_law_X10_gallery
set_option maxRecDepth 20000 in
theorem ggL_law_X11_gallery : GoodIn wsL_law wsX11_gallery := goodIn_r _ [392, 393, 394, 395, 5, 396, 368, 232, 233, 234, 397, 398, 399, 400, 124, 401, 402, 403, 404, 369, 405, 406, 407, 408, 127, 409, 410, 411, 412, 125, 413, 128, 414, 415, 416, 417, 370, 418, 419, 420, 421, 422, 423, 424, 425, 892, 893, 894, 895, 896, 897, 898, 899, 900, 901, 902, 903, 904, 905, 906, 907, 908, 909, 910, 911, 912, 913, 914, 915, 916, 917, 918, 919, 920, 921, 922, 923, 924, 925, 926, 927] (by decide +kernel) (by decide +kernel)
set_option maxRecDepth 20000 in
theorem gL_law_X11_gallery : GoodIn wsL_law (wsV RL 37 RX11 yX11_gallery wsX11_gallery) := goodIn_app (goodIn_of _ (by decide +kernel)) ggL_law_X11_gallery
set_option maxRecDepth 20000 in
theorem ggL_law_X10_knot : GoodIn wsL_law wsX10_knot := goodIn_r _ [429, 20, 430, 24, 431, 432, 37, 433, 434, 435, 436, 19, 437, 262, 438, 198, 2, 199, 387, 190, 191, 54, 192, 65, 388, 208, 209, 877, 878, 879, 880, 881, 882, 883, 884, 885, 886, 887, 888, 889, 890, 891, 931, 932, 933, 934, 935, 936, 937, 938, 939, 940, 941, 945, 946, 947, 948, 949, 950, 957] (by decide +kernel) (by decide +kernel)
set_option maxRecDepth 20000 in
theorem gL_law_X10_knot : GoodIn wsL_law (wsV RL 38 RX10 yX10_knot wsX10_knot) := goodIn_app (goodIn_of _ (by decide +kernel)) ggL_law_X10_knot
set_option maxRecDepth 20000 in
theorem ggL_law_X11_knot : GoodIn wsL_law wsX11_knot := goodIn_r _ [442, 443, 444, 445, 5, 446, 226, 447, 448, 449, 450, 368, 232, 233, 234, 451, 452, 453, 454, 125, 127, 126, 405, 406, 407, 408, 409, 410, 411, 412, 413, 128, 414, 415, 416, 417, 370, 418, 419, 420, 421, 124, 401, 402, 403, 404, 369, 455, 456, 457, 458, 459, 460, 461, 462, 422, 423, 424, 425, 892, 893, 894, 895, 896, 897, 898, 899, 900, 901, 902, 903, 904, 905, 906, 907, 908, 909, 910, 911, 912, 913, 914, 915, 916, 917, 918, 919, 920, 921, 922, 923, 924, 925, 926, 927] (by decide +kernel) (by decide +kernel)
set_option maxRecDepth 20000 in
theorem gL_law_X11_knot : GoodIn wsL_law (wsV RL 41 RX11 yX11_knot wsX11_knot) := goodIn_app (goodIn_of _ (by decide +kernel)) ggL_law_X11_knot
set_option maxRecDepth 20000 in
theorem ggL_law_X10_door : GoodIn wsL_law wsX10_door := goodIn_r _ [466, 20, 381, 37, 298, 383, 384, 385, 19, 386, 262, 388, 208, 2, 209, 294, 295, 296, 297, 24, 299, 29, 300, 301, 302, 23, 303, 82, 84, 304, 305, 306, 307, 308, 309, 310, 311, 312, 157, 158, 54, 159, 65, 313, 190, 191, 192, 314, 315, 316, 317, 318, 319, 320, 321, 252, 253, 254, 255, 256, 257, 322, 323, 324, 325, 76, 265, 326, 327, 328, 329, 330, 83, 331, 332, 333, 334, 335, 336, 337, 338, 339, 340, 341, 342, 28, 343, 90, 344, 278, 279, 280, 345, 346, 347, 348, 349, 73, 74, 350, 351, 352, 353, 354, 355, 356, 357, 358, 359, 360, 361, 362, 363, 877, 878, 879, 880, 881, 882, 883, 884, 885, 886, 887, 888, 889, 890, 891, 931, 932, 933, 934, 935, 936, 937, 945, 946, 947, 948, 949, 950, 938, 939, 940, 941, 957, 942] (by decide +kernel) (by decide +kernel)
set_option maxRecDepth 20000 in
theorem gL_law_X10_door : GoodIn wsL_law (wsV RL 42 RX10 yX10_door wsX10_door) := goodIn_app (goodIn_of _ (by decide +kernel)) ggL_law_X10_door
set_option maxRecDepth 20000 in
theorem ggL_law_X11_door : GoodIn wsL_law wsX11_door := goodIn_r _ [470, 124, 369, 393, 394, 395, 5, 396, 368, 232, 233, 234, 401, 402, 403, 404, 892, 893, 894, 895, 896, 897, 898, 899, 900, 901, 902, 903, 904, 905, 906, 907, 908, 909, 910, 911, 912, 913, 914, 915, 916, 917, 918, 919, 920, 921, 922, 923, 924, 925, 926, 927] (by decide +kernel) (by decide +kernel)
set_option maxRecDepth 20000 in
theorem gL_law_X11_door : GoodIn wsL_law (wsV RL 46 RX11 yX11_door wsX11_door) := goodIn_app (goodIn_of _ (by decide +kernel)) ggL_law_X11_door
set_option maxRecDepth 20000 in
theorem ggL_law_X10_turn : GoodIn wsL_law wsX10_turn := goodIn_r _ [474, 20, 37, 299, 434, 435, 436, 19, 437, 262, 294, 295, 296, 2, 297, 24, 298, 29, 300, 301, 302, 23, 303, 82, 84, 304, 305, 306, 307, 308, 309, 310, 311, 312, 157, 158, 54, 159, 65, 208, 209, 313, 190, 191, 192, 314, 315, 316, 317, 318, 319, 320, 321, 252, 253, 254, 255, 256, 257, 322, 323, 324, 325, 76, 265, 326, 327, 328, 329, 330, 83, 331, 332, 333, 334, 335, 336, 337, 338, 339, 340, 341, 342, 28, 343, 90, 344, 278, 279, 280, 345, 346, 347, 348, 349, 73, 74, 350, 351, 352, 353, 354, 355, 356, 357, 358, 359, 360, 361, 362, 363, 877, 878, 879, 880, 881, 882, 883, 884, 885, 886, 887, 888, 889, 890, 891, 945, 946, 947, 948, 949, 950, 931, 932, 933, 934, 935, 936, 937, 938, 939, 940, 941, 957, 942] (by decide +kernel) (by decide +kernel)
set_option maxRecDepth 20000 in
theorem gL_law_X10_turn : GoodIn wsL_law (wsV RL 47 RX10 yX10_turn wsX10_turn) := goodIn_app (goodIn_of _ (by decide +kernel)) ggL_law_X10_turn
set_option maxRecDepth 20000 in
theorem ggL_law_X11_turn : GoodIn wsL_law wsX11_turn := goodIn_r _ [478, 370, 447, 448, 449, 5, 450, 368, 892, 893, 894, 895, 896, 897, 898, 899, 900, 901, 902, 903, 904, 905, 906, 907, 908, 909, 910, 911, 912, 913, 914, 915, 916, 917, 918, 919, 920, 921, 922, 923, 924, 925, 926, 927] (by decide +kernel) (by decide +kernel)
set_option maxRecDepth 20000 in
theorem gL_law_X11_turn : GoodIn wsL_law (wsV RL 50 RX11 yX11_turn wsX11_turn) := goodIn_app (goodIn_of _ (by decide +kernel)) ggL_law_X11_turn
set_option maxRecDepth 20000 in
theorem ggL_law_X10_man : GoodIn wsL_law wsX10_man := goodIn_r _ [482, 20, 33, 239, 483, 37, 484, 434, 435, 436, 19, 437, 262, 485, 486, 32, 487, 438, 198, 2, 199, 488, 157, 158, 54, 159, 65, 877, 878, 879, 880, 881, 882, 883, 884, 885, 886, 887, 888, 889, 890, 891, 943, 944, 945, 946, 947, 948, 949, 950, 931, 932, 933, 934, 935, 936, 937, 957] (by decide +kernel) (by decide +kernel)
set_option maxRecDepth 20000 in
theorem gL_law_X10_man : GoodIn wsL_law (wsV RL 51 RX10 yX10_man wsX10_man) := goodIn_app (goodIn_of _ (by decide +kernel)) ggL_law_X10_man
set_option maxRecDepth 20000 in
theorem ggL_law_X11_man : GoodIn wsL_law wsX11_man := goodIn_r _ [492, 493, 226, 372, 129, 447, 448, 449, 5, 450, 368, 232, 233, 234, 892, 893, 894, 895, 896, 897, 898, 899, 900, 901, 902, 903, 904, 905, 906, 907, 908, 909, 910, 911, 912, 913, 914, 915, 916, 917, 918, 919, 920, 921, 922, 923, 924, 925, 926, 927] (by decide +kernel) (by decide +kernel)
set_option maxRecDepth 20000 in
theorem gL_law_X11_man : GoodIn wsL_law (wsV RL 54 RX11 yX11_man wsX11_man) := goodIn_app (goodIn_of _ (by decide +kernel)) ggL_law_X11_man
set_option maxRecDepth 20000 in
theorem ggL_law_X10_about : GoodIn wsL_law wsX10_about := goodIn_r _ [497, 33, 483, 37, 484, 498, 499, 500, 501, 32, 502, 503, 387, 190, 191, 54, 192, 65, 388, 208, 2, 209, 504, 505, 506, 507, 96, 508, 877, 878, 879, 880, 881, 882, 883, 884, 885, 886, 887, 888, 889, 890, 891, 943, 944, 945, 946, 947, 948, 949, 950, 957] (by decide +kernel) (by decide +kernel)
set_option maxRecDepth 20000 in
theorem gL_law_X10_about : GoodIn wsL_law (wsV RL 55 RX10 yX10_about wsX10_about) := goodIn_app (goodIn_of _ (by decide +kernel)) ggL_law_X10_about
set_option maxRecDepth 20000 in
theorem ggL_law_X11_about : GoodIn wsL_law wsX11_about := goodIn_r _ [512, 513, 514, 515, 5, 516, 372, 232, 233, 234, 517, 518, 519, 520, 521, 129, 522, 523, 524, 525, 892, 893, 894, 895, 896, 897, 898, 899, 900, 901, 902, 903, 904, 905, 906, 907, 908, 909, 910, 911, 912, 913, 914, 915, 916, 917, 918, 919, 920, 921, 922, 923, 924, 925, 926, 927] (by decide +kernel) (by decide +kernel)
set_option maxRecDepth 20000 in
theorem gL_law_X11_about : GoodIn wsL_law (wsV RL 58 RX11 yX11_about wsX11_about) := goodIn_app (goodIn_of _ (by decide +kernel)) ggL_law_X11_about
set_option maxRecDepth 20000 in
theorem ggL_law_X10_as : GoodIn wsL_law wsX10_as := goodIn_r _ [529, 33, 499, 500, 501, 32, 502, 503, 485, 486, 487, 530, 531, 532, 533, 96, 508, 190, 191, 54, 192, 65, 877, 878, 879, 880, 881, 882, 883, 884, 885, 886, 887, 888, 889, 890, 891, 943, 944, 957] (by decide +kernel) (by decide +kernel)
set_option maxRecDepth 20000 in
theorem gL_law_X10_as : GoodIn wsL_law (wsV RL 59 RX10 yX10_as wsX10_as) := goodIn_app (goodIn_of _ (by decide +kernel)) ggL_law_X10_as
set_option maxRecDepth 20000 in
theorem ggL_law_X11_as : GoodIn wsL_law wsX11_as := goodIn_r _ [537, 493, 129, 513, 514, 515, 5, 516, 372, 232, 233, 234, 892, 893, 894, 895, 896, 897, 898, 899, 900, 901, 902, 903, 904, 905, 906, 907, 908, 909, 910, 911, 912, 913, 914, 915, 916, 917, 918, 919, 920, 921, 922, 923, 924, 925, 926, 927] (by decide +kernel) (by decide +kernel)
set_option maxRecDepth 20000 in
theorem gL_law_X11_as : GoodIn wsL_law (wsV RL 62 RX11 yX11_as wsX11_as) := goodIn_app (goodIn_of _ (by decide +kernel)) ggL_law_X11_as
set_option maxRecDepth 20000 in
theorem ggL_law_X10_walk : GoodIn wsL_law wsX10_walk := goodIn_r _ [541, 33, 20, 37, 484, 298, 498, 499, 500, 501, 32, 502, 503, 383, 384, 385, 19, 386, 262, 387, 190, 191, 54, 192, 65, 388, 208, 2, 209, 530, 531, 532, 533, 96, 508, 542, 543, 544, 545, 73, 74, 265, 546, 347, 348, 349, 488, 157, 158, 159, 877, 878, 879, 880, 881, 882, 883, 884, 885, 886, 887, 888, 889, 890, 891, 945, 946, 947, 948, 949, 950, 943, 944, 931, 932, 933, 934, 935, 936, 937, 957] (by decide +kernel) (by decide +kernel)
set_option maxRecDepth 20000 in
theorem gL_law_X10_walk : GoodIn wsL_law (wsV RL 63 RX10 yX10_walk wsX10_walk) := goodIn_app (goodIn_of _ (by decide +kernel)) ggL_law_X10_walk
set_option maxRecDepth 20000 in
theorem ggL_law_X11_walk : GoodIn wsL_law wsX11_walk := goodIn_r _ [550, 129, 513, 514, 515, 5, 516, 372, 232, 233, 234, 393, 394, 395, 396, 368, 459, 460, 461, 462, 124, 401, 402, 403, 404, 369, 892, 893, 894, 895, 896, 897, 898, 899, 900, 901, 902, 903, 904, 905, 906, 907, 908, 909, 910, 911, 912, 913, 914, 915, 916, 917, 918, 919, 920, 921, 922, 923, 924, 925, 926, 927] (by decide +kernel) (by decide +kernel)
set_option maxRecDepth 20000 in
theorem gL_law_X11_walk : GoodIn wsL_law (wsV RL 66 RX11 yX11_walk wsX11_walk) := goodIn_app (goodIn_of _ (by decide +kernel)) ggL_law_X11_walk
set_option maxRecDepth 20000 in
theorem ggL_law_X10_minutes : GoodIn wsL_law wsX10_minutes := goodIn_r _ [554, 20, 37, 498, 33, 24, 432, 434, 435, 436, 19, 437, 262, 555, 252, 253, 254, 255, 256, 257, 556, 557, 558, 36, 559, 102, 560, 561, 562, 563, 564, 103, 291, 292, 208, 2, 209, 565, 190, 191, 54, 192, 65, 566, 157, 158, 159, 567, 505, 506, 32, 507, 96, 508, 877, 878, 879, 880, 881, 882, 883, 884, 885, 886, 887, 888, 889, 890, 891, 945, 946, 947, 948, 949, 950, 938, 939, 940, 941, 931, 932, 933, 934, 935, 936, 937, 943, 944, 957] (by decide +kernel) (by decide +kernel)
set_option maxRecDepth 20000 in
theorem gL_law_X10_minutes : GoodIn wsL_law (wsV RL 67 RX10 yX10_minutes wsX10_minutes) := goodIn_app (goodIn_of _ (by decide +kernel)) ggL_law_X10_minutes
set_option maxRecDepth 20000 in
theorem ggL_law_X11_minutes : GoodIn wsL_law wsX11_minutes := goodIn_r _ [571, 572, 232, 233, 5, 234, 447, 448, 449, 450, 368, 573, 574, 575, 576, 126, 372, 129, 371, 405, 406, 407, 408, 127, 409, 410, 411, 412, 125, 413, 128, 414, 415, 416, 417, 370, 418, 419, 420, 421, 124, 401, 402, 403, 404, 369, 455, 456, 457, 458, 459, 460, 461, 462, 422, 423, 424, 425, 522, 523, 524, 525, 892, 893, 894, 895, 896, 897, 898, 899, 900, 901, 902, 903, 904, 905, 906, 907, 908, 909, 910, 911, 912, 913, 914, 915, 916, 917, 918, 919, 920, 921, 922, 923, 924, 925, 926, 927] (by decide +kernel) (by decide +kernel)
set_option maxRecDepth 20000 in
theorem gL_law_X11_minutes : GoodIn wsL_law (wsV RL 71 RX11 yX11_minutes wsX11_minutes) := goodIn_app (goodIn_of _ (by decide +kernel)) ggL_law_X11_minutes
set_option maxRecDepth 20000 in
theorem ggL_law_X10_smelt : GoodIn wsL_law wsX10_smelt := goodIn_r _ [580, 20, 29, 434, 435, 436, 19, 437, 262, 438, 198, 2, 199, 581, 355, 356, 28, 357, 90, 358, 190, 191, 54, 192, 65, 877, 878, 879, 880, 881, 882, 883, 884, 885, 886, 887, 888, 889, 890, 891, 931, 932, 933, 934, 935, 936, 937, 942, 957] (by decide +kernel) (by decide +kernel)
set_option maxRecDepth 20000 in
theorem gL_law_X10_smelt : GoodIn wsL_law (wsV RL 72 RX10 yX10_smelt wsX10_smelt) := goodIn_app (goodIn_of _ (by decide +kernel)) ggL_law_X10_smelt
set_option maxRecDepth 20000 in
theorem ggL_law_X11_smelt : GoodIn wsL_law wsX11_smelt := goodIn_r _ [585, 447, 448, 449, 5, 450, 368, 443, 444, 445, 446, 226, 232, 233, 234, 586, 587, 588, 589, 130, 413, 405, 406, 407, 408, 127, 409, 410, 411, 412, 125, 128, 414, 415, 416, 417, 370, 418, 419, 420, 421, 124, 401, 402, 403, 404, 369, 590, 591, 592, 593, 422, 423, 424, 425, 459, 460, 461, 462, 892, 893, 894, 895, 896, 897, 898, 899, 900, 901, 902, 903, 904, 905, 906, 907, 908, 909, 910, 911, 912, 913, 914, 915, 916, 917, 918, 919, 920, 921, 922, 923, 924, 925, 926, 927] (by decide +kernel) (by decide +kernel)
set_option maxRecDepth 20000 in
theorem gL_law_X11_smelt : GoodIn wsL_law (wsV RL 75 RX11 yX11_smelt wsX11_smelt) := goodIn_app (goodIn_of _ (by decide +kernel)) ggL_law_X11_smelt
set_option maxRecDepth 20000 in
theorem ggL_law_X10_doors : GoodIn wsL_law wsX10_doors := goodIn_r _ [597, 20, 598, 434, 435, 436, 19, 437, 262, 599, 600, 2, 601, 602, 603, 604, 605, 381, 555, 252, 253, 254, 255, 256, 257, 606, 607, 608, 609, 25, 37, 298, 299, 432, 300, 301, 302, 23, 303, 82, 84, 304, 305, 306, 307, 308, 309, 310, 311, 312, 157, 158, 54, 159, 65, 208, 209, 313, 190, 191, 192, 314, 315, 316, 317, 318, 319, 320, 321, 322, 323, 324, 325, 76, 265, 326, 327, 328, 329, 330, 83, 331, 332, 333, 334, 877, 878, 879, 880, 881, 882, 883, 884, 885, 886, 887, 888, 889, 890, 891, 931, 932, 933, 934, 935, 936, 937, 945, 946, 947, 948, 949, 950, 938, 939, 940, 941, 957] (by decide +kernel) (by decide +kernel)
set_option maxRecDepth 20000 in
theorem gL_law_X10_doors : GoodIn wsL_law (wsV RL 76 RX10 yX10_doors wsX10_doors) := goodIn_app (goodIn_of _ (by decide +kernel)) ggL_law_X10_doors
set_option maxRecDepth 20000 in
theorem ggL_law_X11_doors : GoodIn wsL_law wsX11_doors := goodIn_r _ [613, 614, 615, 369, 368, 124, 447, 448, 449, 5, 450, 232, 233, 234, 616, 617, 618, 619, 620, 621, 622, 405, 406, 407, 408, 127, 409, 410, 411, 412, 125, 413, 128, 414, 415, 416, 417, 370, 418, 419, 420, 421, 401, 402, 403, 404, 455, 456, 457, 458, 459, 460, 461, 462, 422, 423, 424, 425, 892, 893, 894, 895, 896, 897, 898, 899, 900, 901, 902, 903, 904, 905, 906, 907, 908, 909, 910, 911, 912, 913, 914, 915, 916, 917, 918, 919, 920, 921, 922, 923, 924, 925, 926, 927] (by decide +kernel) (by decide +kernel)
set_option maxRecDepth 20000 in
theorem gL_law_X11_doors : GoodIn wsL_law (wsV RL 79 RX11 yX11_doors wsX11_doors) := goodIn_app (goodIn_of _ (by decide +kernel)) ggL_law_X11_doors
set_option maxRecDepth 20000 in
theorem ggL_law_X10_wayOut : GoodIn wsL_law wsX10_wayOut := goodIn_r _ [626, 20, 24, 434, 435, 436, 19, 437, 262, 438, 198, 2, 199, 627, 628, 629, 630, 275, 208, 209, 631, 632, 633, 23, 634, 309, 83, 313, 190, 191, 54, 192, 65, 546, 347, 348, 349, 73, 74, 265, 877, 878, 879, 880, 881, 882, 883, 884, 885, 886, 887, 888, 889, 890, 891, 931, 932, 933, 934, 935, 936, 937, 938, 939, 940, 941, 957] (by decide +kernel) (by decide +kernel)
set_option maxRecDepth 20000 in
theorem gL_law_X10_wayOut : GoodIn wsL_law (wsV RL 80 RX10 yX10_wayOut wsX10_wayOut) := goodIn_app (goodIn_of _ (by decide +kernel)) ggL_law_X10_wayOut
set_option maxRecDepth 20000 in
theorem ggL_law_X11_wayOut : GoodIn wsL_law wsX11_wayOut := goodIn_r _ [638, 447, 448, 449, 5, 450, 368, 443, 444, 445, 446, 226, 232, 233, 234, 639, 640, 641, 642, 125, 405, 406, 407, 408, 127, 409, 410, 411, 412, 413, 128, 414, 415, 416, 417, 370, 418, 419, 420, 421, 124, 401, 402, 403, 404, 369, 422, 423, 424, 425, 459, 460, 461, 462, 892, 893, 894, 895, 896, 897, 898, 899, 900, 901, 902, 903, 904, 905, 906, 907, 908, 909, 910, 911, 912, 913, 914, 915, 916, 917, 918, 919, 920, 921, 922, 923, 924, 925, 926, 927] (by decide +kernel) (by decide +kernel)
set_option maxRecDepth 20000 in
theorem gL_law_X11_wayOut : GoodIn wsL_law (wsV RL 83 RX11 yX11_wayOut wsX11_wayOut) := goodIn_app (goodIn_of _ (by decide +kernel)) ggL_law_X11_wayOut
set_option maxRecDepth 20000 in
theorem ggL_law_X10_fire : GoodIn wsL_law wsX10_fire := goodIn_r _ [646, 20, 434, 435, 436, 19, 437, 262, 647, 648, 649, 2, 650, 33, 651, 652, 653, 32, 654, 503, 655, 531, 532, 533, 96, 508, 190, 191, 54, 192, 65, 656, 657, 658, 659, 239, 37, 484, 530, 387, 660, 661, 662, 663, 29, 581, 355, 356, 28, 357, 90, 358, 388, 208, 209, 877, 878, 879, 880, 881, 882, 883, 884, 885, 886, 887, 888, 889, 890, 891, 931, 932, 933, 934, 935, 936, 937, 943, 944, 957, 945, 946, 947, 948, 949, 950, 942] (by decide +kernel) (by decide +kernel)
set_option maxRecDepth 20000 in
theorem gL_law_X10_fire : GoodIn wsL_law (wsV RL 84 RX10 yX10_fire wsX10_fire) := goodIn_app (goodIn_of _ (by decide +kernel)) ggL_law_X10_fire
set_option maxRecDepth 20000 in
theorem ggL_law_X11_fire : GoodIn wsL_law wsX11_fire := goodIn_r _ [667, 572, 447, 448, 449, 5, 450, 368, 232, 233, 234, 668, 669, 670, 671, 372, 672, 673, 674, 675, 129, 676, 677, 678, 679, 130, 405, 406, 407, 408, 127, 409, 410, 411, 412, 125, 413, 128, 414, 415, 416, 417, 370, 418, 419, 420, 421, 124, 401, 402, 403, 404, 369, 590, 591, 592, 593, 422, 423, 424, 425, 459, 460, 461, 462, 892, 893, 894, 895, 896, 897, 898, 899, 900, 901, 902, 903, 904, 905, 906, 907, 908, 909, 910, 911, 912, 913, 914, 915, 916, 917, 918, 919, 920, 921, 922, 923, 924, 925, 926, 927] (by decide +kernel) (by decide +kernel)
set_option maxRecDepth 20000 in
theorem gL_law_X11_fire : GoodIn wsL_law (wsV RL 87 RX11 yX11_fire wsX11_fire) := goodIn_app (goodIn_of _ (by decide +kernel)) ggL_law_X11_fire
set_option maxRecDepth 20000 in
theorem ggL_law_X10_next : GoodIn wsL_law wsX10_next := goodIn_r _ [683, 20, 684, 685, 562, 686, 434, 435, 436, 19, 437, 262, 647, 648, 649, 2, 650, 33, 651, 652, 653, 32, 654, 503, 655, 531, 532, 533, 96, 508, 190, 191, 54, 192, 65, 656, 657, 658, 659, 239, 37, 484, 530, 387, 660, 661, 662, 663, 29, 581, 355, 356, 28, 357, 90, 358, 388, 208, 209, 555, 252, 253, 254, 255, 256, 257, 877, 878, 879, 880, 881, 882, 883, 884, 885, 886, 887, 888, 889, 890, 891, 931, 932, 933, 934, 935, 936, 937, 943, 944, 957, 945, 946, 947, 948, 949, 950, 942] (by decide +kernel) (by decide +kernel)
set_option maxRecDepth 20000 in
theorem gL_law_X10_next : GoodIn wsL_law (wsV RL 88 RX10 yX10_next wsX10_next) := goodIn_app (goodIn_of _ (by decide +kernel)) ggL_law_X10_next
set_option maxRecDepth 20000 in
theorem ggL_law_X11_next : GoodIn wsL_law wsX11_next := goodIn_r _ [690, 572, 413, 130, 447, 448, 449, 5, 450, 368, 232, 233, 234, 668, 669, 670, 671, 372, 672, 673, 674, 675, 129, 676, 677, 678, 679, 405, 406, 407, 408, 127, 409, 410, 411, 412, 125, 128, 414, 415, 416, 417, 370, 418, 419, 420, 421, 124, 401, 402, 403, 404, 369, 590, 591, 592, 593, 422, 423, 424, 425, 459, 460, 461, 462, 616, 617, 618, 892, 893, 894, 895, 896, 897, 898, 899, 900, 901, 902, 903, 904, 905, 906, 907, 908, 909, 910, 911, 912, 913, 914, 915, 916, 917, 918, 919, 920, 921, 922, 923, 924, 925, 926, 927] (by decide +kernel) (by decide +kernel)
set_option maxRecDepth 20000 in
theorem gL_law_X11_next : GoodIn wsL_law (wsV RL 91 RX11 yX11_next wsX11_next) := goodIn_app (goodIn_of _ (by decide +kernel)) ggL_law_X11_next
set_option maxRecDepth 20000 in
theorem ggL_law_X10_rescue : GoodIn wsL_law wsX10_rescue := goodIn_r _ [694, 20, 47, 37, 695, 696, 434, 435, 436, 19, 437, 262, 438, 198, 2, 199, 599, 600, 601, 555, 252, 253, 254, 255, 256, 257, 697, 698, 699, 46, 700, 701, 702, 703, 112, 113, 704, 705, 706, 707, 115, 708, 709, 710, 711, 712, 341, 342, 28, 343, 90, 344, 278, 279, 54, 280, 65, 345, 157, 158, 159, 208, 209, 713, 190, 191, 192, 714, 351, 352, 353, 354, 355, 356, 357, 358, 715, 360, 361, 362, 363, 716, 717, 718, 719, 720, 721, 722, 723, 724, 725, 726, 727, 728, 729, 730, 731, 732, 733, 734, 735, 736, 737, 738, 739, 387, 877, 878, 879, 880, 881, 882, 883, 884, 885, 886, 887, 888, 889, 890, 891, 952, 953, 954, 955, 956, 931, 932, 933, 934, 935, 936, 937, 945, 946, 947, 948, 949, 950, 942, 957] (by decide +kernel) (by decide +kernel)
set_option maxRecDepth 20000 in
theorem gL_law_X10_rescue : GoodIn wsL_law (wsV RL 92 RX10 yX10_rescue wsX10_rescue) := goodIn_app (goodIn_of _ (by decide +kernel)) ggL_law_X10_rescue
set_option maxRecDepth 20000 in
theorem ggL_law_X11_rescue : GoodIn wsL_law wsX11_rescue := goodIn_r _ [743, 614, 744, 745, 413, 133, 447, 448, 449, 5, 450, 368, 443, 444, 445, 446, 226, 232, 233, 234, 616, 617, 618, 746, 747, 748, 749, 132, 131, 126, 750, 751, 752, 753, 124, 401, 402, 403, 404, 369, 892, 893, 894, 895, 896, 897, 898, 899, 900, 901, 902, 903, 904, 905, 906, 907, 908, 909, 910, 911, 912, 913, 914, 915, 916, 917, 918, 919, 920, 921, 922, 923, 924, 925, 926, 927] (by decide +kernel) (by decide +kernel)
set_option maxRecDepth 20000 in
theorem gL_law_X11_rescue : GoodIn wsL_law (wsV RL 96 RX11 yX11_rescue wsX11_rescue) := goodIn_app (goodIn_of _ (by decide +kernel)) ggL_law_X11_rescue
set_option maxRecDepth 20000 in
theorem ggL_law_X10_walks : GoodIn wsL_law wsX10_walks := goodIn_r _ [757, 20, 39, 37, 43, 758, 33, 24, 432, 498, 484, 433, 434, 435, 436, 19, 437, 262, 759, 760, 761, 36, 762, 289, 290, 102, 103, 291, 292, 763, 728, 729, 54, 730, 65, 731, 190, 191, 192, 764, 765, 766, 2, 767, 239, 298, 768, 769, 770, 42, 771, 772, 773, 774, 775, 776, 388, 208, 209, 387, 777, 778, 779, 780, 781, 543, 544, 545, 73, 74, 265, 555, 252, 253, 254, 255, 256, 257, 782, 783, 784, 785, 786, 787, 788, 546, 347, 348, 349, 488, 157, 158, 159, 556, 557, 558, 559, 560, 561, 562, 563, 564, 565, 566, 567, 505, 506, 32, 507, 96, 508, 499, 500, 501, 502, 503, 789, 790, 791, 792, 877, 878, 879, 880, 881, 882, 883, 884, 885, 886, 887, 888, 889, 890, 891, 951, 938, 939, 940, 941, 945, 946, 947, 948, 949, 950, 931, 932, 933, 934, 935, 936, 937, 957, 943, 944] (by decide +kernel) (by decide +kernel)
set_option maxRecDepth 20000 in
theorem gL_law_X10_walks : GoodIn wsL_law (wsV RL 97 RX10 yX10_walks wsX10_walks) := goodIn_app (goodIn_of _ (by decide +kernel)) ggL_law_X10_walks
set_option maxRecDepth 20000 in
theorem ggL_law_X11_walks : GoodIn wsL_law wsX11_walks := goodIn_r _ [796, 572, 797, 129, 134, 126, 135, 371, 798, 372, 447, 448, 449, 5, 450, 368, 232, 233, 234, 799, 800, 801, 802, 803, 804, 805, 806, 807, 808, 809, 810, 811, 812, 813, 401, 402, 403, 404, 369, 459, 460, 461, 462, 124, 573, 574, 575, 576, 405, 406, 407, 408, 127, 409, 410, 411, 412, 125, 413, 128, 414, 415, 416, 417, 370, 418, 419, 420, 421, 455, 456, 457, 458, 422, 423, 424, 425, 522, 523, 524, 525, 892, 893, 894, 895, 896, 897, 898, 899, 900, 901, 902, 903, 904, 905, 906, 907, 908, 909, 910, 911, 912, 913, 914, 915, 916, 917, 918, 919, 920, 921, 922, 923, 924, 925, 926, 927] (by decide +kernel) (by decide +kernel)
set_option maxRecDepth 20000 in
theorem gL_law_X11_walks : GoodIn wsL_law (wsV RL 100 RX11 yX11_walks wsX11_walks) := goodIn_app (goodIn_of _ (by decide +kernel)) ggL_law_X11_walks
set_option maxRecDepth 20000 in
theorem ggL_law_X10_image : GoodIn wsL_law wsX10_image := goodIn_r _ [817, 20, 38, 37, 240, 48, 33, 239, 818, 819, 434, 435, 436, 19, 437, 262, 759, 760, 761, 36, 762, 289, 290, 102, 103, 291, 292, 763, 728, 729, 54, 730, 65, 731, 190, 191, 192, 877, 878, 879, 880, 881, 882, 883, 884, 885, 886, 887, 888, 889, 890, 891, 943, 944, 945, 946, 947, 948, 949, 950, 931, 932, 933, 934, 935, 936, 937, 957] (by decide +kernel) (by decide +kernel)
set_option maxRecDepth 20000 in
theorem gL_law_X10_image : GoodIn wsL_law (wsV RL 101 RX10 yX10_image wsX10_image) := goodIn_app (goodIn_of _ (by decide +kernel)) ggL_law_X10_image
set_option maxRecDepth 20000 in
theorem ggL_law_X11_image : GoodIn wsL_law wsX11_image := goodIn_r _ [823, 126, 136, 129, 137, 372, 824, 369, 825, 370, 826, 371, 827, 373, 138, 447, 448, 449, 5, 450, 368, 799, 800, 801, 892, 893, 894, 895, 896, 897, 898, 899, 900, 901, 902, 903, 904, 905, 906, 907, 908, 909, 910, 911, 912, 913, 914, 915, 916, 917, 918, 919, 920, 921, 922, 923, 924, 925, 926, 927] (by decide +kernel) (by decide +kernel)
set_option maxRecDepth 20000 in
theorem gL_law_X11_image : GoodIn wsL_law (wsV RL 104 RX11 yX11_image wsX11_image) := goodIn_app (goodIn_of _ (by decide +kernel)) ggL_law_X11_image
set_option maxRecDepth 20000 in
theorem ggL_law_X10_restore : GoodIn wsL_law wsX10_restore := goodIn_r _ [831, 48, 240, 818, 33, 239, 37, 38, 819, 759, 760, 761, 36, 762, 289, 290, 102, 103, 291, 292, 763, 728, 729, 54, 730, 65, 731, 190, 191, 192, 294, 295, 296, 2, 297, 24, 20, 298, 299, 29, 300, 301, 302, 23, 303, 82, 84, 304, 305, 306, 307, 308, 309, 310, 311, 312, 157, 158, 159, 208, 209, 313, 314, 315, 316, 317, 318, 319, 320, 321, 252, 253, 254, 255, 256, 257, 322, 323, 324, 19, 325, 76, 265, 326, 327, 328, 329, 330, 83, 331, 332, 333, 334, 335, 336, 337, 338, 339, 340, 341, 342, 28, 343, 90, 344, 278, 279, 280, 345, 346, 347, 348, 349, 73, 74, 350, 351, 352, 353, 354, 355, 356, 357, 358, 359, 360, 361, 362, 363, 877, 878, 879, 880, 881, 882, 883, 884, 885, 886, 887, 888, 889, 890, 891, 943, 944, 945, 946, 947, 948, 949, 950, 957, 938, 939, 940, 941, 931, 932, 933, 934, 935, 936, 937, 942] (by decide +kernel) (by decide +kernel)
set_option maxRecDepth 20000 in
theorem gL_law_X10_restore : GoodIn wsL_law (wsV RL 105 RX10 yX10_restore wsX10_restore) := goodIn_app (goodIn_of _ (by decide +kernel)) ggL_law_X10_restore
set_option maxRecDepth 20000 in
theorem ggL_law_X11_restore : GoodIn wsL_law wsX11_restore := goodIn_r _ [835, 138, 373, 824, 372, 136, 126, 137, 129, 825, 369, 826, 370, 827, 371, 799, 800, 5, 801, 892, 893, 894, 895, 896, 897, 898, 899, 900, 901, 902, 903, 904, 905, 906, 907, 908, 909, 910, 911, 912, 913, 914, 915, 916, 917, 918, 919, 920, 921, 922, 923, 924, 925, 926, 927] (by decide +kernel) (by decide +kernel)
set_option maxRecDepth 20000 in
theorem gL_law_X11_restore : GoodIn wsL_law (wsV RL 108 RX11 yX11_restore wsX11_restore) := goodIn_app (goodIn_of _ (by decide +kernel)) ggL_law_X11_restore
set_option maxRecDepth 20000 in
theorem ggL_law_X10_count : GoodIn wsL_law wsX10_count := goodIn_r _ [839, 20, 241, 381, 840, 33, 239, 37, 299, 819, 16, 143, 240, 598, 555, 252, 253, 254, 255, 256, 257, 877, 878, 879, 880, 881, 882, 883, 884, 885, 886, 887, 888, 889, 890, 891, 931, 932, 933, 934, 935, 936, 937, 943, 944, 945, 946, 947, 948, 949, 950, 928, 929, 930] (by decide +kernel) (by decide +kernel)
set_option maxRecDepth 20000 in
theorem gL_law_X10_count : GoodIn wsL_law (wsV RL 109 RX10 yX10_count wsX10_count) := goodIn_app (goodIn_of _ (by decide +kernel)) ggL_law_X10_count
set_option maxRecDepth 20000 in
theorem ggL_law_X11_count : GoodIn wsL_law wsX11_count := goodIn_r _ [844, 845, 846, 847, 5, 848, 368, 124, 125, 372, 370, 371, 165, 373, 615, 447, 448, 449, 450, 892, 893, 894, 895, 896, 897, 898, 899, 900, 901, 902, 903, 904, 905, 906, 907, 908, 909, 910, 911, 912, 913, 914, 915, 916, 917, 918, 919, 920, 921, 922, 923, 924, 925, 926, 927] (by decide +kernel) (by decide +kernel)
set_option maxRecDepth 20000 in
theorem gL_law_X11_count : GoodIn wsL_law (wsV RL 112 RX11 yX11_count wsX11_count) := goodIn_app (goodIn_of _ (by decide +kernel)) ggL_law_X11_count
set_option maxRecDepth 20000 in
theorem ggL_law_X10_digest : GoodIn wsL_law wsX10_digest := goodIn_r _ [852, 853, 20, 241, 854, 33, 239, 16, 143, 855, 856, 375, 376, 2, 377, 378, 379, 380, 381, 37, 298, 24, 382, 383, 384, 385, 19, 386, 262, 387, 190, 191, 54, 192, 65, 388, 208, 209, 434, 435, 436, 437, 857, 427, 428, 429, 430, 431, 432, 433, 438, 198, 199, 858, 578, 579, 580, 29, 581, 355, 356, 28, 357, 90, 358, 859, 624, 625, 626, 627, 628, 629, 630, 275, 631, 632, 633, 23, 634, 309, 83, 313, 546, 347, 348, 349, 73, 74, 265, 860, 495, 496, 497, 483, 484, 498, 499, 500, 501, 32, 502, 503, 504, 505, 506, 507, 96, 508, 861, 837, 838, 839, 840, 299, 819, 240, 598, 555, 252, 253, 254, 255, 256, 257, 877, 878, 879, 880, 881, 882, 883, 884, 885, 886, 887, 888, 889, 890, 891, 931, 932, 933, 934, 935, 936, 937, 943, 944, 928, 929, 930, 945, 946, 947, 948, 949, 950, 938, 939, 940, 941, 957, 942] (by decide +kernel) (by decide +kernel)
set_option maxRecDepth 20000 in
theorem gL_law_X10_digest : GoodIn wsL_law (wsV RL 113 RX10 yX10_digest wsX10_digest) := goodIn_app (goodIn_of _ (by decide +kernel)) ggL_law_X10_digest
set_option maxRecDepth 20000 in
theorem ggL_law_X11_digest : GoodIn wsL_law wsX11_digest := goodIn_r _ [865, 866, 867, 368, 372, 165, 121, 397, 398, 399, 5, 400, 124, 401, 402, 403, 404, 369, 405, 406, 407, 408, 127, 409, 410, 411, 412, 125, 413, 128, 414, 415, 416, 417, 370, 418, 419, 420, 421, 422, 423, 424, 425, 868, 869, 870, 871, 872, 447, 448, 449, 450, 873, 874, 875, 876, 451, 452, 453, 454, 126, 455, 456, 457, 458, 459, 460, 461, 462, 586, 587, 588, 589, 130, 590, 591, 592, 593, 639, 640, 641, 642, 517, 518, 519, 520, 521, 129, 232, 233, 234, 522, 523, 524, 525, 845, 846, 847, 848, 371, 373, 615, 892, 893, 894, 895, 896, 897, 898, 899, 900, 901, 902, 903, 904, 905, 906, 907, 908, 909, 910, 911, 912, 913, 914, 915, 916, 917, 918, 919, 920, 921, 922, 923, 924, 925, 926, 927] (by decide +kernel) (by decide +kernel)
set_option maxRecDepth 20000 in
theorem gL_law_X11_digest : GoodIn wsL_law (wsV RL 117 RX11 yX11_digest wsX11_digest) := goodIn_app (goodIn_of _ (by decide +kernel)) ggL_law_X11_digest
theorem dL_law_0 : decode cL_law 0 = .ok (.new 7, 3) := by decide +kernel
theorem dL_law_3 : decode cL_law 3 = .ok (.dup, 1) := by decide +kernel
theorem dL_law_4 : decode cL_law 4 = .ok (.invokespecial 9, 3) := by decide +kernel
theorem dL_law_7 : decode cL_law 7 = .ok (.astore_n 1, 1) := by decide +kernel
theorem dL_law_8 : decode cL_law 8 = .ok (.new 10, 3) := by decide +kernel
theorem dL_law_11 : decode cL_law 11 = .ok (.dup, 1) := by decide +kernel
theorem dL_law_12 : decode cL_law 12 = .ok (.invokespecial 12, 3) := by decide +kernel
theorem dL_law_15 : decode cL_law 15 = .ok (.astore_n 2, 1) := by decide +kernel
theorem dL_law_16 : decode cL_law 16 = .ok (.iconst 0, 1) := by decide +kernel
theorem dL_law_17 : decode cL_law 17 = .ok (.istore_n 3, 1) := by decide +kernel
theorem dL_law_18 : decode cL_law 18 = .ok (.iload_n 3, 1) := by decide +kernel
theorem dL_law_19 : decode cL_law 19 = .ok (.aload_n 0, 1) := by decide +kernel
theorem dL_law_20 : decode cL_law 20 = .ok (.arraylength, 1) := by decide +kernel
theorem dL_law_21 : decode cL_law 21 = .ok (.iconst 4, 1) := by decide +kernel
theorem dL_law_22 : decode cL_law 22 = .ok (.isub, 1) := by decide +kernel
theorem dL_law_23 : decode cL_law 23 = .ok (.if_icmp .gt 806, 3) := by decide +kernel
theorem dL_law_26 : decode cL_law 26 = .ok (.aload_n 0, 1) := by decide +kernel
theorem dL_law_27 : decode cL_law 27 = .ok (.iload_n 3, 1) := by decide +kernel
theorem dL_law_28 : decode cL_law 28 = .ok (.iaload, 1) := by decide +kernel
theorem dL_law_29 : decode cL_law 29 = .ok (.bipush 31, 2) := by decide +kernel
theorem dL_law_31 : decode cL_law 31 = .ok (.iand, 1) := by decide +kernel
theorem dL_law_32 : decode cL_law 32 = .ok (.tableswitch 791 0 23 #[112, 165, 178, 191, 204, 237, 270, 319, 332, 365, 398, 431, 464, 487, 520, 553, 576, 609, 642, 685, 728, 741, 754, 777], 112) := by decide +kernel
theorem dL_law_144 : decode cL_law 144 = .ok (.aload_n 1, 1) := by decide +kernel
theorem dL_law_145 : decode cL_law 145 = .ok (.aload_n 0, 1) := by decide +kernel
theorem dL_law_146 : decode cL_law 146 = .ok (.iload_n 3, 1) := by decide +kernel
theorem dL_law_147 : decode cL_law 147 = .ok (.iconst 1, 1) := by decide +kernel
theorem dL_law_148 : decode cL_law 148 = .ok (.iadd, 1) := by decide +kernel
theorem dL_law_149 : decode cL_law 149 = .ok (.iaload, 1) := by decide +kernel
theorem dL_law_150 : decode cL_law 150 = .ok (.i2l, 1) := by decide +kernel
theorem dL_law_151 : decode cL_law 151 = .ok (.bipush 32, 2) := by decide +kernel
theorem dL_law_153 : decode cL_law 153 = .ok (.lshl, 1) := by decide +kernel
theorem dL_law_154 : decode cL_law 154 = .ok (.aload_n 0, 1) := by decide +kernel
theorem dL_law_155 : decode cL_law 155 = .ok (.iload_n 3, 1) := by decide +kernel
theorem dL_law_156 : decode cL_law 156 = .ok (.iconst 2, 1) := by decide +kernel
theorem dL_law_157 : decode cL_law 157 = .ok (.iadd, 1) := by decide +kernel
theorem dL_law_158 : decode cL_law 158 = .ok (.iaload, 1) := by decide +kernel
theorem dL_law_159 : decode cL_law 159 = .ok (.i2l, 1) := by decide +kernel
theorem dL_law_160 : decode cL_law 160 = .ok (.ldc2_w 13, 3) := by decide +kernel
theorem dL_law_163 : decode cL_law 163 = .ok (.land, 1) := by decide +kernel
theorem dL_law_164 : decode cL_law 164 = .ok (.lor, 1) := by decide +kernel
theorem dL_law_165 : decode cL_law 165 = .ok (.invokevirtual 15, 3) := by decide +kernel
theorem dL_law_168 : decode cL_law 168 = .ok (.aload_n 2, 1) := by decide +kernel
theorem dL_law_169 : decode cL_law 169 = .ok (.aload_n 0, 1) := by decide +kernel
theorem dL_law_170 : decode cL_law 170 = .ok (.iload_n 3, 1) := by decide +kernel
theorem dL_law_171 : decode cL_law 171 = .ok (.iconst 1, 1) := by decide +kernel
theorem dL_law_172 : decode cL_law 172 = .ok (.iadd, 1) := by decide +kernel
theorem dL_law_173 : decode cL_law 173 = .ok (.iaload, 1) := by decide +kernel
theorem dL_law_174 : decode cL_law 174 = .ok (.i2l, 1) := by decide +kernel
theorem dL_law_175 : decode cL_law 175 = .ok (.bipush 32, 2) := by decide +kernel
theorem dL_law_177 : decode cL_law 177 = .ok (.lshl, 1) := by decide +kernel
theorem dL_law_178 : decode cL_law 178 = .ok (.aload_n 0, 1) := by decide +kernel
theorem dL_law_179 : decode cL_law 179 = .ok (.iload_n 3, 1) := by decide +kernel
theorem dL_law_180 : decode cL_law 180 = .ok (.iconst 2, 1) := by decide +kernel
theorem dL_law_181 : decode cL_law 181 = .ok (.iadd, 1) := by decide +kernel
theorem dL_law_182 : decode cL_law 182 = .ok (.iaload, 1) := by decide +kernel
theorem dL_law_183 : decode cL_law 183 = .ok (.i2l, 1) := by decide +kernel
theorem dL_law_184 : decode cL_law 184 = .ok (.ldc2_w 13, 3) := by decide +kernel
theorem dL_law_187 : decode cL_law 187 = .ok (.land, 1) := by decide +kernel
theorem dL_law_188 : decode cL_law 188 = .ok (.lor, 1) := by decide +kernel
theorem dL_law_189 : decode cL_law 189 = .ok (.invokevirtual 19, 3) := by decide +kernel
theorem dL_law_192 : decode cL_law 192 = .ok (.if_icmp .eq 631, 3) := by decide +kernel
theorem dL_law_195 : decode cL_law 195 = .ok (.iconst 0, 1) := by decide +kernel
theorem dL_law_196 : decode cL_law 196 = .ok (.ireturn, 1) := by decide +kernel
theorem dL_law_197 : decode cL_law 197 = .ok (.aload_n 1, 1) := by decide +kernel
theorem dL_law_198 : decode cL_law 198 = .ok (.invokevirtual 20, 3) := by decide +kernel
theorem dL_law_201 : decode cL_law 201 = .ok (.aload_n 2, 1) := by decide +kernel
theorem dL_law_202 : decode cL_law 202 = .ok (.invokevirtual 24, 3) := by decide +kernel
theorem dL_law_205 : decode cL_law 205 = .ok (.if_icmp .eq 618, 3) := by decide +kernel
theorem dL_law_208 : decode cL_law 208 = .ok (.iconst 0, 1) := by decide +kernel
theorem dL_law_209 : decode cL_law 209 = .ok (.ireturn, 1) := by decide +kernel
theorem dL_law_210 : decode cL_law 210 = .ok (.aload_n 1, 1) := by decide +kernel
theorem dL_law_211 : decode cL_law 211 = .ok (.invokevirtual 25, 3) := by decide +kernel
theorem dL_law_214 : decode cL_law 214 = .ok (.aload_n 2, 1) := by decide +kernel
theorem dL_law_215 : decode cL_law 215 = .ok (.invokevirtual 28, 3) := by decide +kernel
theorem dL_law_218 : decode cL_law 218 = .ok (.if_icmp .eq 605, 3) := by decide +kernel
theorem dL_law_221 : decode cL_law 221 = .ok (.iconst 0, 1) := by decide +kernel
theorem dL_law_222 : decode cL_law 222 = .ok (.ireturn, 1) := by decide +kernel
theorem dL_law_223 : decode cL_law 223 = .ok (.aload_n 1, 1) := by decide +kernel
theorem dL_law_224 : decode cL_law 224 = .ok (.invokevirtual 29, 3) := by decide +kernel
theorem dL_law_227 : decode cL_law 227 = .ok (.aload_n 2, 1) := by decide +kernel
theorem dL_law_228 : decode cL_law 228 = .ok (.invokevirtual 32, 3) := by decide +kernel
theorem dL_law_231 : decode cL_law 231 = .ok (.if_icmp .eq 592, 3) := by decide +kernel
theorem dL_law_234 : decode cL_law 234 = .ok (.iconst 0, 1) := by decide +kernel
theorem dL_law_235 : decode cL_law 235 = .ok (.ireturn, 1) := by decide +kernel
theorem dL_law_236 : decode cL_law 236 = .ok (.aload_n 1, 1) := by decide +kernel
theorem dL_law_237 : decode cL_law 237 = .ok (.aload_n 0, 1) := by decide +kernel
theorem dL_law_238 : decode cL_law 238 = .ok (.iload_n 3, 1) := by decide +kernel
theorem dL_law_239 : decode cL_law 239 = .ok (.iconst 1, 1) := by decide +kernel
theorem dL_law_240 : decode cL_law 240 = .ok (.iadd, 1) := by decide +kernel
theorem dL_law_241 : decode cL_law 241 = .ok (.iaload, 1) := by decide +kernel
theorem dL_law_242 : decode cL_law 242 = .ok (.aload_n 0, 1) := by decide +kernel
theorem dL_law_243 : decode cL_law 243 = .ok (.iload_n 3, 1) := by decide +kernel
theorem dL_law_244 : decode cL_law 244 = .ok (.iconst 2, 1) := by decide +kernel
theorem dL_law_245 : decode cL_law 245 = .ok (.iadd, 1) := by decide +kernel
theorem dL_law_246 : decode cL_law 246 = .ok (.iaload, 1) := by decide +kernel
theorem dL_law_247 : decode cL_law 247 = .ok (.invokevirtual 33, 3) := by decide +kernel
theorem dL_law_250 : decode cL_law 250 = .ok (.aload_n 2, 1) := by decide +kernel
theorem dL_law_251 : decode cL_law 251 = .ok (.aload_n 0, 1) := by decide +kernel
theorem dL_law_252 : decode cL_law 252 = .ok (.iload_n 3, 1) := by decide +kernel
theorem dL_law_253 : decode cL_law 253 = .ok (.iconst 1, 1) := by decide +kernel
theorem dL_law_254 : decode cL_law 254 = .ok (.iadd, 1) := by decide +kernel
theorem dL_law_255 : decode cL_law 255 = .ok (.iaload, 1) := by decide +kernel
theorem dL_law_256 : decode cL_law 256 = .ok (.aload_n 0, 1) := by decide +kernel
theorem dL_law_257 : decode cL_law 257 = .ok (.iload_n 3, 1) := by decide +kernel
theorem dL_law_258 : decode cL_law 258 = .ok (.iconst 2, 1) := by decide +kernel
theorem dL_law_259 : decode cL_law 259 = .ok (.iadd, 1) := by decide +kernel
theorem dL_law_260 : decode cL_law 260 = .ok (.iaload, 1) := by decide +kernel
theorem dL_law_261 : decode cL_law 261 = .ok (.invokevirtual 37, 3) := by decide +kernel
theorem dL_law_264 : decode cL_law 264 = .ok (.if_icmp .eq 559, 3) := by decide +kernel
theorem dL_law_267 : decode cL_law 267 = .ok (.iconst 0, 1) := by decide +kernel
theorem dL_law_268 : decode cL_law 268 = .ok (.ireturn, 1) := by decide +kernel
theorem dL_law_269 : decode cL_law 269 = .ok (.aload_n 1, 1) := by decide +kernel
theorem dL_law_270 : decode cL_law 270 = .ok (.aload_n 0, 1) := by decide +kernel
theorem dL_law_271 : decode cL_law 271 = .ok (.iload_n 3, 1) := by decide +kernel
theorem dL_law_272 : decode cL_law 272 = .ok (.iconst 1, 1) := by decide +kernel
theorem dL_law_273 : decode cL_law 273 = .ok (.iadd, 1) := by decide +kernel
theorem dL_law_274 : decode cL_law 274 = .ok (.iaload, 1) := by decide +kernel
theorem dL_law_275 : decode cL_law 275 = .ok (.aload_n 0, 1) := by decide +kernel
theorem dL_law_276 : decode cL_law 276 = .ok (.iload_n 3, 1) := by decide +kernel
theorem dL_law_277 : decode cL_law 277 = .ok (.iconst 2, 1) := by decide +kernel
theorem dL_law_278 : decode cL_law 278 = .ok (.iadd, 1) := by decide +kernel
theorem dL_law_279 : decode cL_law 279 = .ok (.iaload, 1) := by decide +kernel
theorem dL_law_280 : decode cL_law 280 = .ok (.invokevirtual 38, 3) := by decide +kernel
theorem dL_law_283 : decode cL_law 283 = .ok (.aload_n 2, 1) := by decide +kernel
theorem dL_law_284 : decode cL_law 284 = .ok (.aload_n 0, 1) := by decide +kernel
theorem dL_law_285 : decode cL_law 285 = .ok (.iload_n 3, 1) := by decide +kernel
theorem dL_law_286 : decode cL_law 286 = .ok (.iconst 1, 1) := by decide +kernel
theorem dL_law_287 : decode cL_law 287 = .ok (.iadd, 1) := by decide +kernel
theorem dL_law_288 : decode cL_law 288 = .ok (.iaload, 1) := by decide +kernel
theorem dL_law_289 : decode cL_law 289 = .ok (.aload_n 0, 1) := by decide +kernel
theorem dL_law_290 : decode cL_law 290 = .ok (.iload_n 3, 1) := by decide +kernel
theorem dL_law_291 : decode cL_law 291 = .ok (.iconst 2, 1) := by decide +kernel
theorem dL_law_292 : decode cL_law 292 = .ok (.iadd, 1) := by decide +kernel
theorem dL_law_293 : decode cL_law 293 = .ok (.iaload, 1) := by decide +kernel
theorem dL_law_294 : decode cL_law 294 = .ok (.invokevirtual 41, 3) := by decide +kernel
theorem dL_law_297 : decode cL_law 297 = .ok (.if_icmp .eq 526, 3) := by decide +kernel
theorem dL_law_300 : decode cL_law 300 = .ok (.iconst 0, 1) := by decide +kernel
theorem dL_law_301 : decode cL_law 301 = .ok (.ireturn, 1) := by decide +kernel
theorem dL_law_302 : decode cL_law 302 = .ok (.aload_n 1, 1) := by decide +kernel
theorem dL_law_303 : decode cL_law 303 = .ok (.aload_n 0, 1) := by decide +kernel
theorem dL_law_304 : decode cL_law 304 = .ok (.iload_n 3, 1) := by decide +kernel
theorem dL_law_305 : decode cL_law 305 = .ok (.iconst 1, 1) := by decide +kernel
theorem dL_law_306 : decode cL_law 306 = .ok (.iadd, 1) := by decide +kernel
theorem dL_law_307 : decode cL_law 307 = .ok (.iaload, 1) := by decide +kernel
theorem dL_law_308 : decode cL_law 308 = .ok (.aload_n 0, 1) := by decide +kernel
theorem dL_law_309 : decode cL_law 309 = .ok (.iload_n 3, 1) := by decide +kernel
theorem dL_law_310 : decode cL_law 310 = .ok (.iconst 2, 1) := by decide +kernel
theorem dL_law_311 : decode cL_law 311 = .ok (.iadd, 1) := by decide +kernel
theorem dL_law_312 : decode cL_law 312 = .ok (.iaload, 1) := by decide +kernel
theorem dL_law_313 : decode cL_law 313 = .ok (.ifCond .eq 7, 3) := by decide +kernel
theorem dL_law_316 : decode cL_law 316 = .ok (.iconst 1, 1) := by decide +kernel
theorem dL_law_317 : decode cL_law 317 = .ok (.goto 4, 3) := by decide +kernel
theorem dL_law_320 : decode cL_law 320 = .ok (.iconst 0, 1) := by decide +kernel
theorem dL_law_321 : decode cL_law 321 = .ok (.invokevirtual 42, 3) := by decide +kernel
theorem dL_law_324 : decode cL_law 324 = .ok (.aload_n 2, 1) := by decide +kernel
theorem dL_law_325 : decode cL_law 325 = .ok (.aload_n 0, 1) := by decide +kernel
theorem dL_law_326 : decode cL_law 326 = .ok (.iload_n 3, 1) := by decide +kernel
theorem dL_law_327 : decode cL_law 327 = .ok (.iconst 1, 1) := by decide +kernel
theorem dL_law_328 : decode cL_law 328 = .ok (.iadd, 1) := by decide +kernel
theorem dL_law_329 : decode cL_law 329 = .ok (.iaload, 1) := by decide +kernel
theorem dL_law_330 : decode cL_law 330 = .ok (.aload_n 0, 1) := by decide +kernel
theorem dL_law_331 : decode cL_law 331 = .ok (.iload_n 3, 1) := by decide +kernel
theorem dL_law_332 : decode cL_law 332 = .ok (.iconst 2, 1) := by decide +kernel
theorem dL_law_333 : decode cL_law 333 = .ok (.iadd, 1) := by decide +kernel
theorem dL_law_334 : decode cL_law 334 = .ok (.iaload, 1) := by decide +kernel
theorem dL_law_335 : decode cL_law 335 = .ok (.ifCond .eq 7, 3) := by decide +kernel
theorem dL_law_338 : decode cL_law 338 = .ok (.iconst 1, 1) := by decide +kernel
theorem dL_law_339 : decode cL_law 339 = .ok (.goto 4, 3) := by decide +kernel
theorem dL_law_342 : decode cL_law 342 = .ok (.iconst 0, 1) := by decide +kernel
theorem dL_law_343 : decode cL_law 343 = .ok (.invokevirtual 46, 3) := by decide +kernel
theorem dL_law_346 : decode cL_law 346 = .ok (.if_icmp .eq 477, 3) := by decide +kernel
theorem dL_law_349 : decode cL_law 349 = .ok (.iconst 0, 1) := by decide +kernel
theorem dL_law_350 : decode cL_law 350 = .ok (.ireturn, 1) := by decide +kernel
theorem dL_law_351 : decode cL_law 351 = .ok (.aload_n 1, 1) := by decide +kernel
theorem dL_law_352 : decode cL_law 352 = .ok (.invokevirtual 47, 3) := by decide +kernel
theorem dL_law_355 : decode cL_law 355 = .ok (.aload_n 2, 1) := by decide +kernel
theorem dL_law_356 : decode cL_law 356 = .ok (.invokevirtual 50, 3) := by decide +kernel
theorem dL_law_359 : decode cL_law 359 = .ok (.if_icmp .eq 464, 3) := by decide +kernel
theorem dL_law_362 : decode cL_law 362 = .ok (.iconst 0, 1) := by decide +kernel
theorem dL_law_363 : decode cL_law 363 = .ok (.ireturn, 1) := by decide +kernel
theorem dL_law_364 : decode cL_law 364 = .ok (.aload_n 1, 1) := by decide +kernel
theorem dL_law_365 : decode cL_law 365 = .ok (.aload_n 0, 1) := by decide +kernel
theorem dL_law_366 : decode cL_law 366 = .ok (.iload_n 3, 1) := by decide +kernel
theorem dL_law_367 : decode cL_law 367 = .ok (.iconst 1, 1) := by decide +kernel
theorem dL_law_368 : decode cL_law 368 = .ok (.iadd, 1) := by decide +kernel
theorem dL_law_369 : decode cL_law 369 = .ok (.iaload, 1) := by decide +kernel
theorem dL_law_370 : decode cL_law 370 = .ok (.aload_n 0, 1) := by decide +kernel
theorem dL_law_371 : decode cL_law 371 = .ok (.iload_n 3, 1) := by decide +kernel
theorem dL_law_372 : decode cL_law 372 = .ok (.iconst 2, 1) := by decide +kernel
theorem dL_law_373 : decode cL_law 373 = .ok (.iadd, 1) := by decide +kernel
theorem dL_law_374 : decode cL_law 374 = .ok (.iaload, 1) := by decide +kernel
theorem dL_law_375 : decode cL_law 375 = .ok (.invokevirtual 51, 3) := by decide +kernel
theorem dL_law_378 : decode cL_law 378 = .ok (.aload_n 2, 1) := by decide +kernel
theorem dL_law_379 : decode cL_law 379 = .ok (.aload_n 0, 1) := by decide +kernel
theorem dL_law_380 : decode cL_law 380 = .ok (.iload_n 3, 1) := by decide +kernel
theorem dL_law_381 : decode cL_law 381 = .ok (.iconst 1, 1) := by decide +kernel
theorem dL_law_382 : decode cL_law 382 = .ok (.iadd, 1) := by decide +kernel
theorem dL_law_383 : decode cL_law 383 = .ok (.iaload, 1) := by decide +kernel
theorem dL_law_384 : decode cL_law 384 = .ok (.aload_n 0, 1) := by decide +kernel
theorem dL_law_385 : decode cL_law 385 = .ok (.iload_n 3, 1) := by decide +kernel
theorem dL_law_386 : decode cL_law 386 = .ok (.iconst 2, 1) := by decide +kernel
theorem dL_law_387 : decode cL_law 387 = .ok (.iadd, 1) := by decide +kernel
theorem dL_law_388 : decode cL_law 388 = .ok (.iaload, 1) := by decide +kernel
theorem dL_law_389 : decode cL_law 389 = .ok (.invokevirtual 54, 3) := by decide +kernel
theorem dL_law_392 : decode cL_law 392 = .ok (.if_icmp .eq 431, 3) := by decide +kernel
theorem dL_law_395 : decode cL_law 395 = .ok (.iconst 0, 1) := by decide +kernel
theorem dL_law_396 : decode cL_law 396 = .ok (.ireturn, 1) := by decide +kernel
theorem dL_law_397 : decode cL_law 397 = .ok (.aload_n 1, 1) := by decide +kernel
theorem dL_law_398 : decode cL_law 398 = .ok (.aload_n 0, 1) := by decide +kernel
theorem dL_law_399 : decode cL_law 399 = .ok (.iload_n 3, 1) := by decide +kernel
theorem dL_law_400 : decode cL_law 400 = .ok (.iconst 1, 1) := by decide +kernel
theorem dL_law_401 : decode cL_law 401 = .ok (.iadd, 1) := by decide +kernel
theorem dL_law_402 : decode cL_law 402 = .ok (.iaload, 1) := by decide +kernel
theorem dL_law_403 : decode cL_law 403 = .ok (.aload_n 0, 1) := by decide +kernel
theorem dL_law_404 : decode cL_law 404 = .ok (.iload_n 3, 1) := by decide +kernel
theorem dL_law_405 : decode cL_law 405 = .ok (.iconst 2, 1) := by decide +kernel
theorem dL_law_406 : decode cL_law 406 = .ok (.iadd, 1) := by decide +kernel
theorem dL_law_407 : decode cL_law 407 = .ok (.iaload, 1) := by decide +kernel
theorem dL_law_408 : decode cL_law 408 = .ok (.invokevirtual 55, 3) := by decide +kernel
theorem dL_law_411 : decode cL_law 411 = .ok (.aload_n 2, 1) := by decide +kernel
theorem dL_law_412 : decode cL_law 412 = .ok (.aload_n 0, 1) := by decide +kernel
theorem dL_law_413 : decode cL_law 413 = .ok (.iload_n 3, 1) := by decide +kernel
theorem dL_law_414 : decode cL_law 414 = .ok (.iconst 1, 1) := by decide +kernel
theorem dL_law_415 : decode cL_law 415 = .ok (.iadd, 1) := by decide +kernel
theorem dL_law_416 : decode cL_law 416 = .ok (.iaload, 1) := by decide +kernel
theorem dL_law_417 : decode cL_law 417 = .ok (.aload_n 0, 1) := by decide +kernel
theorem dL_law_418 : decode cL_law 418 = .ok (.iload_n 3, 1) := by decide +kernel
theorem dL_law_419 : decode cL_law 419 = .ok (.iconst 2, 1) := by decide +kernel
theorem dL_law_420 : decode cL_law 420 = .ok (.iadd, 1) := by decide +kernel
theorem dL_law_421 : decode cL_law 421 = .ok (.iaload, 1) := by decide +kernel
theorem dL_law_422 : decode cL_law 422 = .ok (.invokevirtual 58, 3) := by decide +kernel
theorem dL_law_425 : decode cL_law 425 = .ok (.if_icmp .eq 398, 3) := by decide +kernel
theorem dL_law_428 : decode cL_law 428 = .ok (.iconst 0, 1) := by decide +kernel
theorem dL_law_429 : decode cL_law 429 = .ok (.ireturn, 1) := by decide +kernel
theorem dL_law_430 : decode cL_law 430 = .ok (.aload_n 1, 1) := by decide +kernel
theorem dL_law_431 : decode cL_law 431 = .ok (.aload_n 0, 1) := by decide +kernel
theorem dL_law_432 : decode cL_law 432 = .ok (.iload_n 3, 1) := by decide +kernel
theorem dL_law_433 : decode cL_law 433 = .ok (.iconst 1, 1) := by decide +kernel
theorem dL_law_434 : decode cL_law 434 = .ok (.iadd, 1) := by decide +kernel
theorem dL_law_435 : decode cL_law 435 = .ok (.iaload, 1) := by decide +kernel
theorem dL_law_436 : decode cL_law 436 = .ok (.aload_n 0, 1) := by decide +kernel
theorem dL_law_437 : decode cL_law 437 = .ok (.iload_n 3, 1) := by decide +kernel
theorem dL_law_438 : decode cL_law 438 = .ok (.iconst 2, 1) := by decide +kernel
theorem dL_law_439 : decode cL_law 439 = .ok (.iadd, 1) := by decide +kernel
theorem dL_law_440 : decode cL_law 440 = .ok (.iaload, 1) := by decide +kernel
theorem dL_law_441 : decode cL_law 441 = .ok (.invokevirtual 59, 3) := by decide +kernel
theorem dL_law_444 : decode cL_law 444 = .ok (.aload_n 2, 1) := by decide +kernel
theorem dL_law_445 : decode cL_law 445 = .ok (.aload_n 0, 1) := by decide +kernel
theorem dL_law_446 : decode cL_law 446 = .ok (.iload_n 3, 1) := by decide +kernel
theorem dL_law_447 : decode cL_law 447 = .ok (.iconst 1, 1) := by decide +kernel
theorem dL_law_448 : decode cL_law 448 = .ok (.iadd, 1) := by decide +kernel
theorem dL_law_449 : decode cL_law 449 = .ok (.iaload, 1) := by decide +kernel
theorem dL_law_450 : decode cL_law 450 = .ok (.aload_n 0, 1) := by decide +kernel
theorem dL_law_451 : decode cL_law 451 = .ok (.iload_n 3, 1) := by decide +kernel
theorem dL_law_452 : decode cL_law 452 = .ok (.iconst 2, 1) := by decide +kernel
theorem dL_law_453 : decode cL_law 453 = .ok (.iadd, 1) := by decide +kernel
theorem dL_law_454 : decode cL_law 454 = .ok (.iaload, 1) := by decide +kernel
theorem dL_law_455 : decode cL_law 455 = .ok (.invokevirtual 62, 3) := by decide +kernel
theorem dL_law_458 : decode cL_law 458 = .ok (.if_icmp .eq 365, 3) := by decide +kernel
theorem dL_law_461 : decode cL_law 461 = .ok (.iconst 0, 1) := by decide +kernel
theorem dL_law_462 : decode cL_law 462 = .ok (.ireturn, 1) := by decide +kernel
theorem dL_law_463 : decode cL_law 463 = .ok (.aload_n 1, 1) := by decide +kernel
theorem dL_law_464 : decode cL_law 464 = .ok (.aload_n 0, 1) := by decide +kernel
theorem dL_law_465 : decode cL_law 465 = .ok (.iload_n 3, 1) := by decide +kernel
theorem dL_law_466 : decode cL_law 466 = .ok (.iconst 1, 1) := by decide +kernel
theorem dL_law_467 : decode cL_law 467 = .ok (.iadd, 1) := by decide +kernel
theorem dL_law_468 : decode cL_law 468 = .ok (.iaload, 1) := by decide +kernel
theorem dL_law_469 : decode cL_law 469 = .ok (.aload_n 0, 1) := by decide +kernel
theorem dL_law_470 : decode cL_law 470 = .ok (.iload_n 3, 1) := by decide +kernel
theorem dL_law_471 : decode cL_law 471 = .ok (.iconst 2, 1) := by decide +kernel
theorem dL_law_472 : decode cL_law 472 = .ok (.iadd, 1) := by decide +kernel
theorem dL_law_473 : decode cL_law 473 = .ok (.iaload, 1) := by decide +kernel
theorem dL_law_474 : decode cL_law 474 = .ok (.invokevirtual 63, 3) := by decide +kernel
theorem dL_law_477 : decode cL_law 477 = .ok (.aload_n 2, 1) := by decide +kernel
theorem dL_law_478 : decode cL_law 478 = .ok (.aload_n 0, 1) := by decide +kernel
theorem dL_law_479 : decode cL_law 479 = .ok (.iload_n 3, 1) := by decide +kernel
theorem dL_law_480 : decode cL_law 480 = .ok (.iconst 1, 1) := by decide +kernel
theorem dL_law_481 : decode cL_law 481 = .ok (.iadd, 1) := by decide +kernel
theorem dL_law_482 : decode cL_law 482 = .ok (.iaload, 1) := by decide +kernel
theorem dL_law_483 : decode cL_law 483 = .ok (.aload_n 0, 1) := by decide +kernel
theorem dL_law_484 : decode cL_law 484 = .ok (.iload_n 3, 1) := by decide +kernel
theorem dL_law_485 : decode cL_law 485 = .ok (.iconst 2, 1) := by decide +kernel
theorem dL_law_486 : decode cL_law 486 = .ok (.iadd, 1) := by decide +kernel
theorem dL_law_487 : decode cL_law 487 = .ok (.iaload, 1) := by decide +kernel
theorem dL_law_488 : decode cL_law 488 = .ok (.invokevirtual 66, 3) := by decide +kernel
theorem dL_law_491 : decode cL_law 491 = .ok (.if_icmp .eq 332, 3) := by decide +kernel
theorem dL_law_494 : decode cL_law 494 = .ok (.iconst 0, 1) := by decide +kernel
theorem dL_law_495 : decode cL_law 495 = .ok (.ireturn, 1) := by decide +kernel
theorem dL_law_496 : decode cL_law 496 = .ok (.aload_n 1, 1) := by decide +kernel
theorem dL_law_497 : decode cL_law 497 = .ok (.aload_n 0, 1) := by decide +kernel
theorem dL_law_498 : decode cL_law 498 = .ok (.iload_n 3, 1) := by decide +kernel
theorem dL_law_499 : decode cL_law 499 = .ok (.iconst 1, 1) := by decide +kernel
theorem dL_law_500 : decode cL_law 500 = .ok (.iadd, 1) := by decide +kernel
theorem dL_law_501 : decode cL_law 501 = .ok (.iaload, 1) := by decide +kernel
theorem dL_law_502 : decode cL_law 502 = .ok (.invokevirtual 67, 3) := by decide +kernel
theorem dL_law_505 : decode cL_law 505 = .ok (.aload_n 2, 1) := by decide +kernel
theorem dL_law_506 : decode cL_law 506 = .ok (.aload_n 0, 1) := by decide +kernel
theorem dL_law_507 : decode cL_law 507 = .ok (.iload_n 3, 1) := by decide +kernel
theorem dL_law_508 : decode cL_law 508 = .ok (.iconst 1, 1) := by decide +kernel
theorem dL_law_509 : decode cL_law 509 = .ok (.iadd, 1) := by decide +kernel
theorem dL_law_510 : decode cL_law 510 = .ok (.iaload, 1) := by decide +kernel
theorem dL_law_511 : decode cL_law 511 = .ok (.invokevirtual 71, 3) := by decide +kernel
theorem dL_law_514 : decode cL_law 514 = .ok (.if_icmp .eq 309, 3) := by decide +kernel
theorem dL_law_517 : decode cL_law 517 = .ok (.iconst 0, 1) := by decide +kernel
theorem dL_law_518 : decode cL_law 518 = .ok (.ireturn, 1) := by decide +kernel
theorem dL_law_519 : decode cL_law 519 = .ok (.aload_n 1, 1) := by decide +kernel
theorem dL_law_520 : decode cL_law 520 = .ok (.aload_n 0, 1) := by decide +kernel
theorem dL_law_521 : decode cL_law 521 = .ok (.iload_n 3, 1) := by decide +kernel
theorem dL_law_522 : decode cL_law 522 = .ok (.iconst 1, 1) := by decide +kernel
theorem dL_law_523 : decode cL_law 523 = .ok (.iadd, 1) := by decide +kernel
theorem dL_law_524 : decode cL_law 524 = .ok (.iaload, 1) := by decide +kernel
theorem dL_law_525 : decode cL_law 525 = .ok (.aload_n 0, 1) := by decide +kernel
theorem dL_law_526 : decode cL_law 526 = .ok (.iload_n 3, 1) := by decide +kernel
theorem dL_law_527 : decode cL_law 527 = .ok (.iconst 2, 1) := by decide +kernel
theorem dL_law_528 : decode cL_law 528 = .ok (.iadd, 1) := by decide +kernel
theorem dL_law_529 : decode cL_law 529 = .ok (.iaload, 1) := by decide +kernel
theorem dL_law_530 : decode cL_law 530 = .ok (.invokevirtual 72, 3) := by decide +kernel
theorem dL_law_533 : decode cL_law 533 = .ok (.aload_n 2, 1) := by decide +kernel
theorem dL_law_534 : decode cL_law 534 = .ok (.aload_n 0, 1) := by decide +kernel
theorem dL_law_535 : decode cL_law 535 = .ok (.iload_n 3, 1) := by decide +kernel
theorem dL_law_536 : decode cL_law 536 = .ok (.iconst 1, 1) := by decide +kernel
theorem dL_law_537 : decode cL_law 537 = .ok (.iadd, 1) := by decide +kernel
theorem dL_law_538 : decode cL_law 538 = .ok (.iaload, 1) := by decide +kernel
theorem dL_law_539 : decode cL_law 539 = .ok (.aload_n 0, 1) := by decide +kernel
theorem dL_law_540 : decode cL_law 540 = .ok (.iload_n 3, 1) := by decide +kernel
theorem dL_law_541 : decode cL_law 541 = .ok (.iconst 2, 1) := by decide +kernel
theorem dL_law_542 : decode cL_law 542 = .ok (.iadd, 1) := by decide +kernel
theorem dL_law_543 : decode cL_law 543 = .ok (.iaload, 1) := by decide +kernel
theorem dL_law_544 : decode cL_law 544 = .ok (.invokevirtual 75, 3) := by decide +kernel
theorem dL_law_547 : decode cL_law 547 = .ok (.if_icmp .eq 276, 3) := by decide +kernel
theorem dL_law_550 : decode cL_law 550 = .ok (.iconst 0, 1) := by decide +kernel
theorem dL_law_551 : decode cL_law 551 = .ok (.ireturn, 1) := by decide +kernel
theorem dL_law_552 : decode cL_law 552 = .ok (.aload_n 1, 1) := by decide +kernel
theorem dL_law_553 : decode cL_law 553 = .ok (.aload_n 0, 1) := by decide +kernel
theorem dL_law_554 : decode cL_law 554 = .ok (.iload_n 3, 1) := by decide +kernel
theorem dL_law_555 : decode cL_law 555 = .ok (.iconst 1, 1) := by decide +kernel
theorem dL_law_556 : decode cL_law 556 = .ok (.iadd, 1) := by decide +kernel
theorem dL_law_557 : decode cL_law 557 = .ok (.iaload, 1) := by decide +kernel
theorem dL_law_558 : decode cL_law 558 = .ok (.aload_n 0, 1) := by decide +kernel
theorem dL_law_559 : decode cL_law 559 = .ok (.iload_n 3, 1) := by decide +kernel
theorem dL_law_560 : decode cL_law 560 = .ok (.iconst 2, 1) := by decide +kernel
theorem dL_law_561 : decode cL_law 561 = .ok (.iadd, 1) := by decide +kernel
theorem dL_law_562 : decode cL_law 562 = .ok (.iaload, 1) := by decide +kernel
theorem dL_law_563 : decode cL_law 563 = .ok (.invokevirtual 76, 3) := by decide +kernel
theorem dL_law_566 : decode cL_law 566 = .ok (.aload_n 2, 1) := by decide +kernel
theorem dL_law_567 : decode cL_law 567 = .ok (.aload_n 0, 1) := by decide +kernel
theorem dL_law_568 : decode cL_law 568 = .ok (.iload_n 3, 1) := by decide +kernel
theorem dL_law_569 : decode cL_law 569 = .ok (.iconst 1, 1) := by decide +kernel
theorem dL_law_570 : decode cL_law 570 = .ok (.iadd, 1) := by decide +kernel
theorem dL_law_571 : decode cL_law 571 = .ok (.iaload, 1) := by decide +kernel
theorem dL_law_572 : decode cL_law 572 = .ok (.aload_n 0, 1) := by decide +kernel
theorem dL_law_573 : decode cL_law 573 = .ok (.iload_n 3, 1) := by decide +kernel
theorem dL_law_574 : decode cL_law 574 = .ok (.iconst 2, 1) := by decide +kernel
theorem dL_law_575 : decode cL_law 575 = .ok (.iadd, 1) := by decide +kernel
theorem dL_law_576 : decode cL_law 576 = .ok (.iaload, 1) := by decide +kernel
theorem dL_law_577 : decode cL_law 577 = .ok (.invokevirtual 79, 3) := by decide +kernel
theorem dL_law_580 : decode cL_law 580 = .ok (.if_icmp .eq 243, 3) := by decide +kernel
theorem dL_law_583 : decode cL_law 583 = .ok (.iconst 0, 1) := by decide +kernel
theorem dL_law_584 : decode cL_law 584 = .ok (.ireturn, 1) := by decide +kernel
theorem dL_law_585 : decode cL_law 585 = .ok (.aload_n 1, 1) := by decide +kernel
theorem dL_law_586 : decode cL_law 586 = .ok (.aload_n 0, 1) := by decide +kernel
theorem dL_law_587 : decode cL_law 587 = .ok (.iload_n 3, 1) := by decide +kernel
theorem dL_law_588 : decode cL_law 588 = .ok (.iconst 1, 1) := by decide +kernel
theorem dL_law_589 : decode cL_law 589 = .ok (.iadd, 1) := by decide +kernel
theorem dL_law_590 : decode cL_law 590 = .ok (.iaload, 1) := by decide +kernel
theorem dL_law_591 : decode cL_law 591 = .ok (.invokevirtual 80, 3) := by decide +kernel
theorem dL_law_594 : decode cL_law 594 = .ok (.aload_n 2, 1) := by decide +kernel
theorem dL_law_595 : decode cL_law 595 = .ok (.aload_n 0, 1) := by decide +kernel
theorem dL_law_596 : decode cL_law 596 = .ok (.iload_n 3, 1) := by decide +kernel
theorem dL_law_597 : decode cL_law 597 = .ok (.iconst 1, 1) := by decide +kernel
theorem dL_law_598 : decode cL_law 598 = .ok (.iadd, 1) := by decide +kernel
theorem dL_law_599 : decode cL_law 599 = .ok (.iaload, 1) := by decide +kernel
theorem dL_law_600 : decode cL_law 600 = .ok (.invokevirtual 83, 3) := by decide +kernel
theorem dL_law_603 : decode cL_law 603 = .ok (.if_icmp .eq 220, 3) := by decide +kernel
theorem dL_law_606 : decode cL_law 606 = .ok (.iconst 0, 1) := by decide +kernel
theorem dL_law_607 : decode cL_law 607 = .ok (.ireturn, 1) := by decide +kernel
theorem dL_law_608 : decode cL_law 608 = .ok (.aload_n 1, 1) := by decide +kernel
theorem dL_law_609 : decode cL_law 609 = .ok (.aload_n 0, 1) := by decide +kernel
theorem dL_law_610 : decode cL_law 610 = .ok (.iload_n 3, 1) := by decide +kernel
theorem dL_law_611 : decode cL_law 611 = .ok (.iconst 1, 1) := by decide +kernel
theorem dL_law_612 : decode cL_law 612 = .ok (.iadd, 1) := by decide +kernel
theorem dL_law_613 : decode cL_law 613 = .ok (.iaload, 1) := by decide +kernel
theorem dL_law_614 : decode cL_law 614 = .ok (.aload_n 0, 1) := by decide +kernel
theorem dL_law_615 : decode cL_law 615 = .ok (.iload_n 3, 1) := by decide +kernel
theorem dL_law_616 : decode cL_law 616 = .ok (.iconst 2, 1) := by decide +kernel
theorem dL_law_617 : decode cL_law 617 = .ok (.iadd, 1) := by decide +kernel
theorem dL_law_618 : decode cL_law 618 = .ok (.iaload, 1) := by decide +kernel
theorem dL_law_619 : decode cL_law 619 = .ok (.invokevirtual 84, 3) := by decide +kernel
theorem dL_law_622 : decode cL_law 622 = .ok (.aload_n 2, 1) := by decide +kernel
theorem dL_law_623 : decode cL_law 623 = .ok (.aload_n 0, 1) := by decide +kernel
theorem dL_law_624 : decode cL_law 624 = .ok (.iload_n 3, 1) := by decide +kernel
theorem dL_law_625 : decode cL_law 625 = .ok (.iconst 1, 1) := by decide +kernel
theorem dL_law_626 : decode cL_law 626 = .ok (.iadd, 1) := by decide +kernel
theorem dL_law_627 : decode cL_law 627 = .ok (.iaload, 1) := by decide +kernel
theorem dL_law_628 : decode cL_law 628 = .ok (.aload_n 0, 1) := by decide +kernel
theorem dL_law_629 : decode cL_law 629 = .ok (.iload_n 3, 1) := by decide +kernel
theorem dL_law_630 : decode cL_law 630 = .ok (.iconst 2, 1) := by decide +kernel
theorem dL_law_631 : decode cL_law 631 = .ok (.iadd, 1) := by decide +kernel
theorem dL_law_632 : decode cL_law 632 = .ok (.iaload, 1) := by decide +kernel
theorem dL_law_633 : decode cL_law 633 = .ok (.invokevirtual 87, 3) := by decide +kernel
theorem dL_law_636 : decode cL_law 636 = .ok (.if_icmp .eq 187, 3) := by decide +kernel
theorem dL_law_639 : decode cL_law 639 = .ok (.iconst 0, 1) := by decide +kernel
theorem dL_law_640 : decode cL_law 640 = .ok (.ireturn, 1) := by decide +kernel
theorem dL_law_641 : decode cL_law 641 = .ok (.aload_n 1, 1) := by decide +kernel
theorem dL_law_642 : decode cL_law 642 = .ok (.aload_n 0, 1) := by decide +kernel
theorem dL_law_643 : decode cL_law 643 = .ok (.iload_n 3, 1) := by decide +kernel
theorem dL_law_644 : decode cL_law 644 = .ok (.iconst 1, 1) := by decide +kernel
theorem dL_law_645 : decode cL_law 645 = .ok (.iadd, 1) := by decide +kernel
theorem dL_law_646 : decode cL_law 646 = .ok (.iaload, 1) := by decide +kernel
theorem dL_law_647 : decode cL_law 647 = .ok (.aload_n 0, 1) := by decide +kernel
theorem dL_law_648 : decode cL_law 648 = .ok (.iload_n 3, 1) := by decide +kernel
theorem dL_law_649 : decode cL_law 649 = .ok (.iconst 2, 1) := by decide +kernel
theorem dL_law_650 : decode cL_law 650 = .ok (.iadd, 1) := by decide +kernel
theorem dL_law_651 : decode cL_law 651 = .ok (.iaload, 1) := by decide +kernel
theorem dL_law_652 : decode cL_law 652 = .ok (.invokevirtual 88, 3) := by decide +kernel
theorem dL_law_655 : decode cL_law 655 = .ok (.aload_n 2, 1) := by decide +kernel
theorem dL_law_656 : decode cL_law 656 = .ok (.aload_n 0, 1) := by decide +kernel
theorem dL_law_657 : decode cL_law 657 = .ok (.iload_n 3, 1) := by decide +kernel
theorem dL_law_658 : decode cL_law 658 = .ok (.iconst 1, 1) := by decide +kernel
theorem dL_law_659 : decode cL_law 659 = .ok (.iadd, 1) := by decide +kernel
theorem dL_law_660 : decode cL_law 660 = .ok (.iaload, 1) := by decide +kernel
theorem dL_law_661 : decode cL_law 661 = .ok (.aload_n 0, 1) := by decide +kernel
theorem dL_law_662 : decode cL_law 662 = .ok (.iload_n 3, 1) := by decide +kernel
theorem dL_law_663 : decode cL_law 663 = .ok (.iconst 2, 1) := by decide +kernel
theorem dL_law_664 : decode cL_law 664 = .ok (.iadd, 1) := by decide +kernel
theorem dL_law_665 : decode cL_law 665 = .ok (.iaload, 1) := by decide +kernel
theorem dL_law_666 : decode cL_law 666 = .ok (.invokevirtual 91, 3) := by decide +kernel
theorem dL_law_669 : decode cL_law 669 = .ok (.if_icmp .eq 154, 3) := by decide +kernel
theorem dL_law_672 : decode cL_law 672 = .ok (.iconst 0, 1) := by decide +kernel
theorem dL_law_673 : decode cL_law 673 = .ok (.ireturn, 1) := by decide +kernel
theorem dL_law_674 : decode cL_law 674 = .ok (.aload_n 1, 1) := by decide +kernel
theorem dL_law_675 : decode cL_law 675 = .ok (.aload_n 0, 1) := by decide +kernel
theorem dL_law_676 : decode cL_law 676 = .ok (.iload_n 3, 1) := by decide +kernel
theorem dL_law_677 : decode cL_law 677 = .ok (.iconst 1, 1) := by decide +kernel
theorem dL_law_678 : decode cL_law 678 = .ok (.iadd, 1) := by decide +kernel
theorem dL_law_679 : decode cL_law 679 = .ok (.iaload, 1) := by decide +kernel
theorem dL_law_680 : decode cL_law 680 = .ok (.aload_n 0, 1) := by decide +kernel
theorem dL_law_681 : decode cL_law 681 = .ok (.iload_n 3, 1) := by decide +kernel
theorem dL_law_682 : decode cL_law 682 = .ok (.iconst 2, 1) := by decide +kernel
theorem dL_law_683 : decode cL_law 683 = .ok (.iadd, 1) := by decide +kernel
theorem dL_law_684 : decode cL_law 684 = .ok (.iaload, 1) := by decide +kernel
theorem dL_law_685 : decode cL_law 685 = .ok (.aload_n 0, 1) := by decide +kernel
theorem dL_law_686 : decode cL_law 686 = .ok (.iload_n 3, 1) := by decide +kernel
theorem dL_law_687 : decode cL_law 687 = .ok (.iconst 3, 1) := by decide +kernel
theorem dL_law_688 : decode cL_law 688 = .ok (.iadd, 1) := by decide +kernel
theorem dL_law_689 : decode cL_law 689 = .ok (.iaload, 1) := by decide +kernel
theorem dL_law_690 : decode cL_law 690 = .ok (.invokevirtual 92, 3) := by decide +kernel
theorem dL_law_693 : decode cL_law 693 = .ok (.aload_n 2, 1) := by decide +kernel
theorem dL_law_694 : decode cL_law 694 = .ok (.aload_n 0, 1) := by decide +kernel
theorem dL_law_695 : decode cL_law 695 = .ok (.iload_n 3, 1) := by decide +kernel
theorem dL_law_696 : decode cL_law 696 = .ok (.iconst 1, 1) := by decide +kernel
theorem dL_law_697 : decode cL_law 697 = .ok (.iadd, 1) := by decide +kernel
theorem dL_law_698 : decode cL_law 698 = .ok (.iaload, 1) := by decide +kernel
theorem dL_law_699 : decode cL_law 699 = .ok (.aload_n 0, 1) := by decide +kernel
theorem dL_law_700 : decode cL_law 700 = .ok (.iload_n 3, 1) := by decide +kernel
theorem dL_law_701 : decode cL_law 701 = .ok (.iconst 2, 1) := by decide +kernel
theorem dL_law_702 : decode cL_law 702 = .ok (.iadd, 1) := by decide +kernel
theorem dL_law_703 : decode cL_law 703 = .ok (.iaload, 1) := by decide +kernel
theorem dL_law_704 : decode cL_law 704 = .ok (.aload_n 0, 1) := by decide +kernel
theorem dL_law_705 : decode cL_law 705 = .ok (.iload_n 3, 1) := by decide +kernel
theorem dL_law_706 : decode cL_law 706 = .ok (.iconst 3, 1) := by decide +kernel
theorem dL_law_707 : decode cL_law 707 = .ok (.iadd, 1) := by decide +kernel
theorem dL_law_708 : decode cL_law 708 = .ok (.iaload, 1) := by decide +kernel
theorem dL_law_709 : decode cL_law 709 = .ok (.invokevirtual 96, 3) := by decide +kernel
theorem dL_law_712 : decode cL_law 712 = .ok (.if_icmp .eq 111, 3) := by decide +kernel
theorem dL_law_715 : decode cL_law 715 = .ok (.iconst 0, 1) := by decide +kernel
theorem dL_law_716 : decode cL_law 716 = .ok (.ireturn, 1) := by decide +kernel
theorem dL_law_717 : decode cL_law 717 = .ok (.aload_n 1, 1) := by decide +kernel
theorem dL_law_718 : decode cL_law 718 = .ok (.aload_n 0, 1) := by decide +kernel
theorem dL_law_719 : decode cL_law 719 = .ok (.iload_n 3, 1) := by decide +kernel
theorem dL_law_720 : decode cL_law 720 = .ok (.iconst 1, 1) := by decide +kernel
theorem dL_law_721 : decode cL_law 721 = .ok (.iadd, 1) := by decide +kernel
theorem dL_law_722 : decode cL_law 722 = .ok (.iaload, 1) := by decide +kernel
theorem dL_law_723 : decode cL_law 723 = .ok (.aload_n 0, 1) := by decide +kernel
theorem dL_law_724 : decode cL_law 724 = .ok (.iload_n 3, 1) := by decide +kernel
theorem dL_law_725 : decode cL_law 725 = .ok (.iconst 2, 1) := by decide +kernel
theorem dL_law_726 : decode cL_law 726 = .ok (.iadd, 1) := by decide +kernel
theorem dL_law_727 : decode cL_law 727 = .ok (.iaload, 1) := by decide +kernel
theorem dL_law_728 : decode cL_law 728 = .ok (.aload_n 0, 1) := by decide +kernel
theorem dL_law_729 : decode cL_law 729 = .ok (.iload_n 3, 1) := by decide +kernel
theorem dL_law_730 : decode cL_law 730 = .ok (.iconst 3, 1) := by decide +kernel
theorem dL_law_731 : decode cL_law 731 = .ok (.iadd, 1) := by decide +kernel
theorem dL_law_732 : decode cL_law 732 = .ok (.iaload, 1) := by decide +kernel
theorem dL_law_733 : decode cL_law 733 = .ok (.invokevirtual 97, 3) := by decide +kernel
theorem dL_law_736 : decode cL_law 736 = .ok (.aload_n 2, 1) := by decide +kernel
theorem dL_law_737 : decode cL_law 737 = .ok (.aload_n 0, 1) := by decide +kernel
theorem dL_law_738 : decode cL_law 738 = .ok (.iload_n 3, 1) := by decide +kernel
theorem dL_law_739 : decode cL_law 739 = .ok (.iconst 1, 1) := by decide +kernel
theorem dL_law_740 : decode cL_law 740 = .ok (.iadd, 1) := by decide +kernel
theorem dL_law_741 : decode cL_law 741 = .ok (.iaload, 1) := by decide +kernel
theorem dL_law_742 : decode cL_law 742 = .ok (.aload_n 0, 1) := by decide +kernel
theorem dL_law_743 : decode cL_law 743 = .ok (.iload_n 3, 1) := by decide +kernel
theorem dL_law_744 : decode cL_law 744 = .ok (.iconst 2, 1) := by decide +kernel
theorem dL_law_745 : decode cL_law 745 = .ok (.iadd, 1) := by decide +kernel
theorem dL_law_746 : decode cL_law 746 = .ok (.iaload, 1) := by decide +kernel
theorem dL_law_747 : decode cL_law 747 = .ok (.aload_n 0, 1) := by decide +kernel
theorem dL_law_748 : decode cL_law 748 = .ok (.iload_n 3, 1) := by decide +kernel
theorem dL_law_749 : decode cL_law 749 = .ok (.iconst 3, 1) := by decide +kernel
theorem dL_law_750 : decode cL_law 750 = .ok (.iadd, 1) := by decide +kernel
theorem dL_law_751 : decode cL_law 751 = .ok (.iaload, 1) := by decide +kernel
theorem dL_law_752 : decode cL_law 752 = .ok (.invokevirtual 100, 3) := by decide +kernel
theorem dL_law_755 : decode cL_law 755 = .ok (.if_icmp .eq 68, 3) := by decide +kernel
theorem dL_law_758 : decode cL_law 758 = .ok (.iconst 0, 1) := by decide +kernel
theorem dL_law_759 : decode cL_law 759 = .ok (.ireturn, 1) := by decide +kernel
theorem dL_law_760 : decode cL_law 760 = .ok (.aload_n 1, 1) := by decide +kernel
theorem dL_law_761 : decode cL_law 761 = .ok (.invokevirtual 101, 3) := by decide +kernel
theorem dL_law_764 : decode cL_law 764 = .ok (.aload_n 2, 1) := by decide +kernel
theorem dL_law_765 : decode cL_law 765 = .ok (.invokevirtual 104, 3) := by decide +kernel
theorem dL_law_768 : decode cL_law 768 = .ok (.if_icmp .eq 55, 3) := by decide +kernel
theorem dL_law_771 : decode cL_law 771 = .ok (.iconst 0, 1) := by decide +kernel
theorem dL_law_772 : decode cL_law 772 = .ok (.ireturn, 1) := by decide +kernel
theorem dL_law_773 : decode cL_law 773 = .ok (.aload_n 1, 1) := by decide +kernel
theorem dL_law_774 : decode cL_law 774 = .ok (.invokevirtual 105, 3) := by decide +kernel
theorem dL_law_777 : decode cL_law 777 = .ok (.aload_n 2, 1) := by decide +kernel
theorem dL_law_778 : decode cL_law 778 = .ok (.invokevirtual 108, 3) := by decide +kernel
theorem dL_law_781 : decode cL_law 781 = .ok (.if_icmp .eq 42, 3) := by decide +kernel
theorem dL_law_784 : decode cL_law 784 = .ok (.iconst 0, 1) := by decide +kernel
theorem dL_law_785 : decode cL_law 785 = .ok (.ireturn, 1) := by decide +kernel
theorem dL_law_786 : decode cL_law 786 = .ok (.aload_n 1, 1) := by decide +kernel
theorem dL_law_787 : decode cL_law 787 = .ok (.aload_n 0, 1) := by decide +kernel
theorem dL_law_788 : decode cL_law 788 = .ok (.iload_n 3, 1) := by decide +kernel
theorem dL_law_789 : decode cL_law 789 = .ok (.iconst 1, 1) := by decide +kernel
theorem dL_law_790 : decode cL_law 790 = .ok (.iadd, 1) := by decide +kernel
theorem dL_law_791 : decode cL_law 791 = .ok (.iaload, 1) := by decide +kernel
theorem dL_law_792 : decode cL_law 792 = .ok (.invokevirtual 109, 3) := by decide +kernel
theorem dL_law_795 : decode cL_law 795 = .ok (.aload_n 2, 1) := by decide +kernel
theorem dL_law_796 : decode cL_law 796 = .ok (.aload_n 0, 1) := by decide +kernel
theorem dL_law_797 : decode cL_law 797 = .ok (.iload_n 3, 1) := by decide +kernel
theorem dL_law_798 : decode cL_law 798 = .ok (.iconst 1, 1) := by decide +kernel
theorem dL_law_799 : decode cL_law 799 = .ok (.iadd, 1) := by decide +kernel
theorem dL_law_800 : decode cL_law 800 = .ok (.iaload, 1) := by decide +kernel
theorem dL_law_801 : decode cL_law 801 = .ok (.invokevirtual 112, 3) := by decide +kernel
theorem dL_law_804 : decode cL_law 804 = .ok (.if_icmp .eq 19, 3) := by decide +kernel
theorem dL_law_807 : decode cL_law 807 = .ok (.iconst 0, 1) := by decide +kernel
theorem dL_law_808 : decode cL_law 808 = .ok (.ireturn, 1) := by decide +kernel
theorem dL_law_809 : decode cL_law 809 = .ok (.aload_n 1, 1) := by decide +kernel
theorem dL_law_810 : decode cL_law 810 = .ok (.invokevirtual 113, 3) := by decide +kernel
theorem dL_law_813 : decode cL_law 813 = .ok (.aload_n 2, 1) := by decide +kernel
theorem dL_law_814 : decode cL_law 814 = .ok (.invokevirtual 117, 3) := by decide +kernel
theorem dL_law_817 : decode cL_law 817 = .ok (.lcmp, 1) := by decide +kernel
theorem dL_law_818 : decode cL_law 818 = .ok (.ifCond .eq 5, 3) := by decide +kernel
theorem dL_law_821 : decode cL_law 821 = .ok (.iconst 0, 1) := by decide +kernel
theorem dL_law_822 : decode cL_law 822 = .ok (.ireturn, 1) := by decide +kernel
theorem dL_law_823 : decode cL_law 823 = .ok (.iinc 3 4, 3) := by decide +kernel
theorem dL_law_826 : decode cL_law 826 = .ok (.goto (-808), 3) := by decide +kernel
theorem dL_law_829 : decode cL_law 829 = .ok (.iconst 1, 1) := by decide +kernel
theorem dL_law_830 : decode cL_law 830 = .ok (.ireturn, 1) := by decide +kernel
