theorem dX11_goGallery_45 : decode cX11_goGallery 45 = .ok (.putfield 73, 3) := by decide +kernel
theorem dX11_goGallery_48 : decode cX11_goGallery 48 = .ok (.iload_n 1, 1) := by decide +kernel
theorem dX11_goGallery_49 : decode cX11_goGallery 49 = .ok (.i2l, 1) := by decide +kernel
theorem dX11_goGallery_50 : decode cX11_goGallery 50 = .ok (.lconst 1, 1) := by decide +kernel
theorem dX11_goGallery_51 : decode cX11_goGallery 51 = .ok (.ldc2_w 76, 3) := by decide +kernel
theorem dX11_goGallery_54 : decode cX11_goGallery 54 = .ok (.invokestatic 78, 3) := by decide +kernel
theorem dX11_goGallery_57 : decode cX11_goGallery 57 = .ok (.ireturn, 1) := by decide +kernel
theorem dX11_goGallery_58 : decode cX11_goGallery 58 = .ok (.iload_n 1, 1) := by decide +kernel
theorem dX11_goGallery_59 : decode cX11_goGallery 59 = .ok (.i2l, 1) := by decide +kernel
theorem dX11_goGallery_60 : decode cX11_goGallery 60 = .ok (.lconst 0, 1) := by decide +kernel
theorem dX11_goGallery_61 : decode cX11_goGallery 61 = .ok (.ldc2_w 82, 3) := by decide +kernel
theorem dX11_goGallery_64 : decode cX11_goGallery 64 = .ok (.invokestatic 78, 3) := by decide +kernel
theorem dX11_goGallery_67 : decode cX11_goGallery 67 = .ok (.ifCond .eq 24, 3) := by decide +kernel
theorem dX11_goGallery_70 : decode cX11_goGallery 70 = .ok (.aload_n 0, 1) := by decide +kernel
theorem dX11_goGallery_71 : decode cX11_goGallery 71 = .ok (.getfield 73, 3) := by decide +kernel
theorem dX11_goGallery_74 : decode cX11_goGallery 74 = .ok (.ifCond .eq 13, 3) := by decide +kernel
theorem dX11_goGallery_77 : decode cX11_goGallery 77 = .ok (.iload_n 1, 1) := by decide +kernel
theorem dX11_goGallery_78 : decode cX11_goGallery 78 = .ok (.aload_n 0, 1) := by decide +kernel
theorem dX11_goGallery_79 : decode cX11_goGallery 79 = .ok (.getfield 13, 3) := by decide +kernel
theorem dX11_goGallery_82 : decode cX11_goGallery 82 = .ok (.iload_n 2, 1) := by decide +kernel
theorem dX11_goGallery_83 : decode cX11_goGallery 83 = .ok (.iaload, 1) := by decide +kernel
theorem dX11_goGallery_84 : decode cX11_goGallery 84 = .ok (.if_icmp .eq 7, 3) := by decide +kernel
theorem dX11_goGallery_87 : decode cX11_goGallery 87 = .ok (.iconst 1, 1) := by decide +kernel
theorem dX11_goGallery_88 : decode cX11_goGallery 88 = .ok (.goto 4, 3) := by decide +kernel
theorem dX11_goGallery_91 : decode cX11_goGallery 91 = .ok (.iconst 0, 1) := by decide +kernel
theorem dX11_goGallery_92 : decode cX11_goGallery 92 = .ok (.istore_n 3, 1) := by decide +kernel
theorem dX11_goGallery_93 : decode cX11_goGallery 93 = .ok (.iload_n 3, 1) := by decide +kernel
theorem dX11_goGallery_94 : decode cX11_goGallery 94 = .ok (.ifCond .eq 15, 3) := by decide +kernel
theorem dX11_goGallery_97 : decode cX11_goGallery 97 = .ok (.aload_n 0, 1) := by decide +kernel
theorem dX11_goGallery_98 : decode cX11_goGallery 98 = .ok (.getfield 13, 3) := by decide +kernel
theorem dX11_goGallery_101 : decode cX11_goGallery 101 = .ok (.iload_n 2, 1) := by decide +kernel
theorem dX11_goGallery_102 : decode cX11_goGallery 102 = .ok (.aload_n 0, 1) := by decide +kernel
theorem dX11_goGallery_103 : decode cX11_goGallery 103 = .ok (.getfield 73, 3) := by decide +kernel
theorem dX11_goGallery_106 : decode cX11_goGallery 106 = .ok (.iadd, 1) := by decide +kernel
theorem dX11_goGallery_107 : decode cX11_goGallery 107 = .ok (.iload_n 1, 1) := by decide +kernel
theorem dX11_goGallery_108 : decode cX11_goGallery 108 = .ok (.iastore, 1) := by decide +kernel
theorem dX11_goGallery_109 : decode cX11_goGallery 109 = .ok (.aload_n 0, 1) := by decide +kernel
theorem dX11_goGallery_110 : decode cX11_goGallery 110 = .ok (.dup, 1) := by decide +kernel
theorem dX11_goGallery_111 : decode cX11_goGallery 111 = .ok (.getfield 73, 3) := by decide +kernel
theorem dX11_goGallery_114 : decode cX11_goGallery 114 = .ok (.iconst 1, 1) := by decide +kernel
theorem dX11_goGallery_115 : decode cX11_goGallery 115 = .ok (.iadd, 1) := by decide +kernel
theorem dX11_goGallery_116 : decode cX11_goGallery 116 = .ok (.putfield 73, 3) := by decide +kernel
theorem dX11_goGallery_119 : decode cX11_goGallery 119 = .ok (.iload_n 3, 1) := by decide +kernel
theorem dX11_goGallery_120 : decode cX11_goGallery 120 = .ok (.ireturn, 1) := by decide +kernel
set_option maxRecDepth 20000 in
theorem ggX11_go_X11_goGallery : GoodIn wsX11_go wsX11_goGallery := goodIn_r _ [13, 3, 1, 2, 7, 5, 14, 15, 12, 16, 17, 18, 19, 20, 21, 22, 23, 24, 25, 26, 27, 28, 29, 30, 31, 32, 33, 34, 35, 36, 37, 38, 39, 40, 41, 42, 43, 44, 45, 46, 47, 48, 49, 50, 51, 52] (by decide +kernel) (by decide +kernel)
set_option maxRecDepth 20000 in
theorem gX11_go_X11_goGallery : GoodIn wsX11_go (wsV RX11 84 RX11 yX11_goGallery wsX11_goGallery) := goodIn_app (goodIn_of _ (by decide +kernel)) ggX11_go_X11_goGallery
set_option maxRecDepth 20000 in
theorem ggX11_go_X11_in : GoodIn wsX11_go wsX11_in := goodIn_r _ [16] (by decide +kernel) (by decide +kernel)
set_option maxRecDepth 20000 in
theorem gX11_go_X11_in : GoodIn wsX11_go (va_wsS RX11 78 yX11_in wsX11_in) := goodIn_app (goodIn_of _ (by decide +kernel)) ggX11_go_X11_in
theorem dX11_go_0 : decode cX11_go 0 = .ok (.iload_n 1, 1) := by decide +kernel
theorem dX11_go_1 : decode cX11_go 1 = .ok (.bipush 48, 2) := by decide +kernel
theorem dX11_go_3 : decode cX11_go 3 = .ok (.isub, 1) := by decide +kernel
theorem dX11_go_4 : decode cX11_go 4 = .ok (.istore_n 2, 1) := by decide +kernel
theorem dX11_go_5 : decode cX11_go 5 = .ok (.aload_n 0, 1) := by decide +kernel
theorem dX11_go_6 : decode cX11_go 6 = .ok (.getfield 73, 3) := by decide +kernel
theorem dX11_go_9 : decode cX11_go 9 = .ok (.istore_n 3, 1) := by decide +kernel
theorem dX11_go_10 : decode cX11_go 10 = .ok (.iload_n 3, 1) := by decide +kernel
theorem dX11_go_11 : decode cX11_go 11 = .ok (.iconst 3, 1) := by decide +kernel
theorem dX11_go_12 : decode cX11_go 12 = .ok (.if_icmp .ge 9, 3) := by decide +kernel
theorem dX11_go_15 : decode cX11_go 15 = .ok (.aload_n 0, 1) := by decide +kernel
theorem dX11_go_16 : decode cX11_go 16 = .ok (.iload_n 2, 1) := by decide +kernel
theorem dX11_go_17 : decode cX11_go 17 = .ok (.invokevirtual 84, 3) := by decide +kernel
theorem dX11_go_20 : decode cX11_go 20 = .ok (.ireturn, 1) := by decide +kernel
theorem dX11_go_21 : decode cX11_go 21 = .ok (.iload_n 3, 1) := by decide +kernel
theorem dX11_go_22 : decode cX11_go 22 = .ok (.iconst 5, 1) := by decide +kernel
theorem dX11_go_23 : decode cX11_go 23 = .ok (.if_icmp .ge 91, 3) := by decide +kernel
theorem dX11_go_26 : decode cX11_go 26 = .ok (.aload_n 0, 1) := by decide +kernel
theorem dX11_go_27 : decode cX11_go 27 = .ok (.iload_n 1, 1) := by decide +kernel
theorem dX11_go_28 : decode cX11_go 28 = .ok (.bipush 44, 2) := by decide +kernel
theorem dX11_go_30 : decode cX11_go 30 = .ok (.if_icmp .ne 7, 3) := by decide +kernel
theorem dX11_go_33 : decode cX11_go 33 = .ok (.iconst 0, 1) := by decide +kernel
theorem dX11_go_34 : decode cX11_go 34 = .ok (.goto 14, 3) := by decide +kernel
theorem dX11_go_37 : decode cX11_go 37 = .ok (.iload_n 1, 1) := by decide +kernel
theorem dX11_go_38 : decode cX11_go 38 = .ok (.bipush 59, 2) := by decide +kernel
theorem dX11_go_40 : decode cX11_go 40 = .ok (.if_icmp .ne 7, 3) := by decide +kernel
theorem dX11_go_43 : decode cX11_go 43 = .ok (.iconst 5, 1) := by decide +kernel
theorem dX11_go_44 : decode cX11_go 44 = .ok (.goto 4, 3) := by decide +kernel
theorem dX11_go_47 : decode cX11_go 47 = .ok (.iconst 4, 1) := by decide +kernel
theorem dX11_go_48 : decode cX11_go 48 = .ok (.putfield 73, 3) := by decide +kernel
theorem dX11_go_51 : decode cX11_go 51 = .ok (.iload_n 1, 1) := by decide +kernel
theorem dX11_go_52 : decode cX11_go 52 = .ok (.bipush 100, 2) := by decide +kernel
theorem dX11_go_54 : decode cX11_go 54 = .ok (.if_icmp .ne 22, 3) := by decide +kernel
theorem dX11_go_57 : decode cX11_go 57 = .ok (.iload_n 3, 1) := by decide +kernel
theorem dX11_go_58 : decode cX11_go 58 = .ok (.iconst 3, 1) := by decide +kernel
theorem dX11_go_59 : decode cX11_go 59 = .ok (.if_icmp .ne 17, 3) := by decide +kernel
theorem dX11_go_62 : decode cX11_go 62 = .ok (.aload_n 0, 1) := by decide +kernel
theorem dX11_go_63 : decode cX11_go 63 = .ok (.getfield 13, 3) := by decide +kernel
theorem dX11_go_66 : decode cX11_go 66 = .ok (.iconst 4, 1) := by decide +kernel
theorem dX11_go_67 : decode cX11_go 67 = .ok (.aload_n 0, 1) := by decide +kernel
theorem dX11_go_68 : decode cX11_go 68 = .ok (.getfield 70, 3) := by decide +kernel
theorem dX11_go_71 : decode cX11_go 71 = .ok (.imul, 1) := by decide +kernel
theorem dX11_go_72 : decode cX11_go 72 = .ok (.iconst 1, 1) := by decide +kernel
theorem dX11_go_73 : decode cX11_go 73 = .ok (.isub, 1) := by decide +kernel
theorem dX11_go_74 : decode cX11_go 74 = .ok (.iconst 1, 1) := by decide +kernel
theorem dX11_go_75 : decode cX11_go 75 = .ok (.iastore, 1) := by decide +kernel
theorem dX11_go_76 : decode cX11_go 76 = .ok (.iload_n 1, 1) := by decide +kernel
theorem dX11_go_77 : decode cX11_go 77 = .ok (.bipush 44, 2) := by decide +kernel
theorem dX11_go_79 : decode cX11_go 79 = .ok (.if_icmp .ne 12, 3) := by decide +kernel
theorem dX11_go_82 : decode cX11_go 82 = .ok (.aload_n 0, 1) := by decide +kernel
theorem dX11_go_83 : decode cX11_go 83 = .ok (.getfield 70, 3) := by decide +kernel
theorem dX11_go_86 : decode cX11_go 86 = .ok (.bipush 10, 2) := by decide +kernel
theorem dX11_go_88 : decode cX11_go 88 = .ok (.if_icmp .lt 20, 3) := by decide +kernel
theorem dX11_go_91 : decode cX11_go 91 = .ok (.iload_n 1, 1) := by decide +kernel
theorem dX11_go_92 : decode cX11_go 92 = .ok (.bipush 59, 2) := by decide +kernel
theorem dX11_go_94 : decode cX11_go 94 = .ok (.if_icmp .eq 14, 3) := by decide +kernel
theorem dX11_go_97 : decode cX11_go 97 = .ok (.iload_n 1, 1) := by decide +kernel
theorem dX11_go_98 : decode cX11_go 98 = .ok (.bipush 100, 2) := by decide +kernel
theorem dX11_go_100 : decode cX11_go 100 = .ok (.if_icmp .ne 12, 3) := by decide +kernel
theorem dX11_go_103 : decode cX11_go 103 = .ok (.iload_n 3, 1) := by decide +kernel
theorem dX11_go_104 : decode cX11_go 104 = .ok (.iconst 3, 1) := by decide +kernel
theorem dX11_go_105 : decode cX11_go 105 = .ok (.if_icmp .ne 7, 3) := by decide +kernel
theorem dX11_go_108 : decode cX11_go 108 = .ok (.iconst 1, 1) := by decide +kernel
theorem dX11_go_109 : decode cX11_go 109 = .ok (.goto 4, 3) := by decide +kernel
theorem dX11_go_112 : decode cX11_go 112 = .ok (.iconst 0, 1) := by decide +kernel
theorem dX11_go_113 : decode cX11_go 113 = .ok (.ireturn, 1) := by decide +kernel
theorem dX11_go_114 : decode cX11_go 114 = .ok (.iload_n 3, 1) := by decide +kernel
theorem dX11_go_115 : decode cX11_go 115 = .ok (.iconst 5, 1) := by decide +kernel
theorem dX11_go_116 : decode cX11_go 116 = .ok (.if_icmp .ne 42, 3) := by decide +kernel
theorem dX11_go_119 : decode cX11_go 119 = .ok (.aload_n 0, 1) := by decide +kernel
theorem dX11_go_120 : decode cX11_go 120 = .ok (.iload_n 2, 1) := by decide +kernel
theorem dX11_go_121 : decode cX11_go 121 = .ok (.putfield 88, 3) := by decide +kernel
theorem dX11_go_124 : decode cX11_go 124 = .ok (.aload_n 0, 1) := by decide +kernel
theorem dX11_go_125 : decode cX11_go 125 = .ok (.bipush 6, 2) := by decide +kernel
theorem dX11_go_127 : decode cX11_go 127 = .ok (.putfield 73, 3) := by decide +kernel
theorem dX11_go_130 : decode cX11_go 130 = .ok (.iload_n 2, 1) := by decide +kernel
theorem dX11_go_131 : decode cX11_go 131 = .ok (.i2l, 1) := by decide +kernel
theorem dX11_go_132 : decode cX11_go 132 = .ok (.lconst 0, 1) := by decide +kernel
theorem dX11_go_133 : decode cX11_go 133 = .ok (.ldc2_w 82, 3) := by decide +kernel
theorem dX11_go_136 : decode cX11_go 136 = .ok (.invokestatic 78, 3) := by decide +kernel
theorem dX11_go_139 : decode cX11_go 139 = .ok (.ifCond .eq 17, 3) := by decide +kernel
theorem dX11_go_142 : decode cX11_go 142 = .ok (.aload_n 0, 1) := by decide +kernel
theorem dX11_go_143 : decode cX11_go 143 = .ok (.getfield 16, 3) := by decide +kernel
theorem dX11_go_146 : decode cX11_go 146 = .ok (.iload_n 2, 1) := by decide +kernel
theorem dX11_go_147 : decode cX11_go 147 = .ok (.iaload, 1) := by decide +kernel
theorem dX11_go_148 : decode cX11_go 148 = .ok (.iconst (-1), 1) := by decide +kernel
theorem dX11_go_149 : decode cX11_go 149 = .ok (.if_icmp .ne 7, 3) := by decide +kernel
theorem dX11_go_152 : decode cX11_go 152 = .ok (.iconst 1, 1) := by decide +kernel
theorem dX11_go_153 : decode cX11_go 153 = .ok (.goto 4, 3) := by decide +kernel
theorem dX11_go_156 : decode cX11_go 156 = .ok (.iconst 0, 1) := by decide +kernel
theorem dX11_go_157 : decode cX11_go 157 = .ok (.ireturn, 1) := by decide +kernel
theorem dX11_go_158 : decode cX11_go 158 = .ok (.iload_n 2, 1) := by decide +kernel
theorem dX11_go_159 : decode cX11_go 159 = .ok (.i2l, 1) := by decide +kernel
theorem dX11_go_160 : decode cX11_go 160 = .ok (.lconst 0, 1) := by decide +kernel
theorem dX11_go_161 : decode cX11_go 161 = .ok (.ldc2_w 76, 3) := by decide +kernel
theorem dX11_go_164 : decode cX11_go 164 = .ok (.invokestatic 78, 3) := by decide +kernel
theorem dX11_go_167 : decode cX11_go 167 = .ok (.ifCond .eq 23, 3) := by decide +kernel
theorem dX11_go_170 : decode cX11_go 170 = .ok (.aload_n 0, 1) := by decide +kernel
theorem dX11_go_171 : decode cX11_go 171 = .ok (.getfield 16, 3) := by decide +kernel
theorem dX11_go_174 : decode cX11_go 174 = .ok (.aload_n 0, 1) := by decide +kernel
theorem dX11_go_175 : decode cX11_go 175 = .ok (.getfield 88, 3) := by decide +kernel
theorem dX11_go_178 : decode cX11_go 178 = .ok (.iload_n 2, 1) := by decide +kernel
theorem dX11_go_179 : decode cX11_go 179 = .ok (.iastore, 1) := by decide +kernel
theorem dX11_go_180 : decode cX11_go 180 = .ok (.aload_n 0, 1) := by decide +kernel
theorem dX11_go_181 : decode cX11_go 181 = .ok (.dup, 1) := by decide +kernel
theorem dX11_go_182 : decode cX11_go 182 = .ok (.getfield 91, 3) := by decide +kernel
theorem dX11_go_185 : decode cX11_go 185 = .ok (.iconst 1, 1) := by decide +kernel
theorem dX11_go_186 : decode cX11_go 186 = .ok (.iadd, 1) := by decide +kernel
theorem dX11_go_187 : decode cX11_go 187 = .ok (.putfield 91, 3) := by decide +kernel
theorem dX11_go_190 : decode cX11_go 190 = .ok (.aload_n 0, 1) := by decide +kernel
theorem dX11_go_191 : decode cX11_go 191 = .ok (.iconst 5, 1) := by decide +kernel
theorem dX11_go_192 : decode cX11_go 192 = .ok (.putfield 73, 3) := by decide +kernel
theorem dX11_go_195 : decode cX11_go 195 = .ok (.iload_n 2, 1) := by decide +kernel
theorem dX11_go_196 : decode cX11_go 196 = .ok (.i2l, 1) := by decide +kernel
theorem dX11_go_197 : decode cX11_go 197 = .ok (.lconst 0, 1) := by decide +kernel
theorem dX11_go_198 : decode cX11_go 198 = .ok (.ldc2_w 76, 3) := by decide +kernel
theorem dX11_go_201 : decode cX11_go 201 = .ok (.invokestatic 78, 3) := by decide +kernel
theorem dX11_go_204 : decode cX11_go 204 = .ok (.ireturn, 1) := by decide +kernel
set_option maxRecDepth 20000 in
theorem ggX11_faultOf_X11_go : GoodIn wsX11_faultOf wsX11_go := goodIn_r _ [11, 4, 12, 2, 13, 14, 1, 15, 3, 16, 17, 18, 10, 19, 20, 21, 22, 23, 24, 25, 26, 27, 28, 29, 30, 31, 32, 33, 34, 35, 36, 37, 38, 39, 40, 41, 42, 43, 44, 45, 46, 47, 48, 49, 50, 51, 52, 53, 54, 55, 56, 57, 58] (by decide +kernel) (by decide +kernel)
set_option maxRecDepth 20000 in
theorem gX11_faultOf_X11_go : GoodIn wsX11_faultOf (wsV RX11 94 RX11 yX11_go wsX11_go) := goodIn_app (goodIn_of _ (by decide +kernel)) ggX11_faultOf_X11_go
theorem dX11_faultOf_0 : decode cX11_faultOf 0 = .ok (.iconst 0, 1) := by decide +kernel
theorem dX11_faultOf_1 : decode cX11_faultOf 1 = .ok (.istore_n 1, 1) := by decide +kernel
theorem dX11_faultOf_2 : decode cX11_faultOf 2 = .ok (.iload_n 1, 1) := by decide +kernel
theorem dX11_faultOf_3 : decode cX11_faultOf 3 = .ok (.bipush 7, 2) := by decide +kernel
theorem dX11_faultOf_5 : decode cX11_faultOf 5 = .ok (.if_icmp .ge 16, 3) := by decide +kernel
theorem dX11_faultOf_8 : decode cX11_faultOf 8 = .ok (.aload_n 0, 1) := by decide +kernel
theorem dX11_faultOf_9 : decode cX11_faultOf 9 = .ok (.getfield 16, 3) := by decide +kernel
theorem dX11_faultOf_12 : decode cX11_faultOf 12 = .ok (.iload_n 1, 1) := by decide +kernel
theorem dX11_faultOf_13 : decode cX11_faultOf 13 = .ok (.iconst (-1), 1) := by decide +kernel
theorem dX11_faultOf_14 : decode cX11_faultOf 14 = .ok (.iastore, 1) := by decide +kernel
theorem dX11_faultOf_15 : decode cX11_faultOf 15 = .ok (.iinc 1 1, 3) := by decide +kernel
theorem dX11_faultOf_18 : decode cX11_faultOf 18 = .ok (.goto (-16), 3) := by decide +kernel
theorem dX11_faultOf_21 : decode cX11_faultOf 21 = .ok (.aload_n 0, 1) := by decide +kernel
theorem dX11_faultOf_22 : decode cX11_faultOf 22 = .ok (.iconst 0, 1) := by decide +kernel
theorem dX11_faultOf_23 : decode cX11_faultOf 23 = .ok (.putfield 70, 3) := by decide +kernel
theorem dX11_faultOf_26 : decode cX11_faultOf 26 = .ok (.aload_n 0, 1) := by decide +kernel
theorem dX11_faultOf_27 : decode cX11_faultOf 27 = .ok (.iconst 0, 1) := by decide +kernel
theorem dX11_faultOf_28 : decode cX11_faultOf 28 = .ok (.putfield 91, 3) := by decide +kernel
theorem dX11_faultOf_31 : decode cX11_faultOf 31 = .ok (.aload_n 0, 1) := by decide +kernel
theorem dX11_faultOf_32 : decode cX11_faultOf 32 = .ok (.iconst 0, 1) := by decide +kernel
theorem dX11_faultOf_33 : decode cX11_faultOf 33 = .ok (.putfield 73, 3) := by decide +kernel
theorem dX11_faultOf_36 : decode cX11_faultOf 36 = .ok (.iconst 0, 1) := by decide +kernel
theorem dX11_faultOf_37 : decode cX11_faultOf 37 = .ok (.istore_n 1, 1) := by decide +kernel
theorem dX11_faultOf_38 : decode cX11_faultOf 38 = .ok (.iload_n 1, 1) := by decide +kernel
theorem dX11_faultOf_39 : decode cX11_faultOf 39 = .ok (.aload_n 0, 1) := by decide +kernel
theorem dX11_faultOf_40 : decode cX11_faultOf 40 = .ok (.getfield 67, 3) := by decide +kernel
theorem dX11_faultOf_43 : decode cX11_faultOf 43 = .ok (.if_icmp .ge 22, 3) := by decide +kernel
theorem dX11_faultOf_46 : decode cX11_faultOf 46 = .ok (.aload_n 0, 1) := by decide +kernel
theorem dX11_faultOf_47 : decode cX11_faultOf 47 = .ok (.aload_n 0, 1) := by decide +kernel
theorem dX11_faultOf_48 : decode cX11_faultOf 48 = .ok (.getfield 7, 3) := by decide +kernel
theorem dX11_faultOf_51 : decode cX11_faultOf 51 = .ok (.iload_n 1, 1) := by decide +kernel
theorem dX11_faultOf_52 : decode cX11_faultOf 52 = .ok (.iaload, 1) := by decide +kernel
theorem dX11_faultOf_53 : decode cX11_faultOf 53 = .ok (.invokevirtual 94, 3) := by decide +kernel
theorem dX11_faultOf_56 : decode cX11_faultOf 56 = .ok (.ifCond .eq 9, 3) := by decide +kernel
theorem dX11_faultOf_59 : decode cX11_faultOf 59 = .ok (.iinc 1 1, 3) := by decide +kernel
theorem dX11_faultOf_62 : decode cX11_faultOf 62 = .ok (.goto (-24), 3) := by decide +kernel
theorem dX11_faultOf_65 : decode cX11_faultOf 65 = .ok (.iload_n 1, 1) := by decide +kernel
theorem dX11_faultOf_66 : decode cX11_faultOf 66 = .ok (.ireturn, 1) := by decide +kernel
set_option maxRecDepth 20000 in
theorem ggX11_fault_X11_faultOf : GoodIn wsX11_fault wsX11_faultOf := goodIn_r _ [5, 6, 7, 8, 9, 10, 11, 12, 13, 14, 4, 15, 16, 17, 18, 19, 20, 21, 22, 23, 24, 25, 26, 27, 28, 29, 30, 31, 32, 33, 34, 35, 36, 37, 38, 39, 40, 41, 42, 43, 44, 45, 46, 47, 48, 49, 50, 51, 52, 53, 54, 55, 56, 57, 58, 59, 60, 61, 62] (by decide +kernel) (by decide +kernel)
set_option maxRecDepth 20000 in
theorem gX11_fault_X11_faultOf : GoodIn wsX11_fault (wsV RX11 97 RX11 yX11_faultOf wsX11_faultOf) := goodIn_app (goodIn_of _ (by decide +kernel)) ggX11_fault_X11_faultOf
theorem dX11_fault_0 : decode cX11_fault 0 = .ok (.aload_n 0, 1) := by decide +kernel
theorem dX11_fault_1 : decode cX11_fault 1 = .ok (.invokevirtual 97, 3) := by decide +kernel
theorem dX11_fault_4 : decode cX11_fault 4 = .ok (.ireturn, 1) := by decide +kernel
theorem dX11_lacks_0 : decode cX11_lacks 0 = .ok (.aload_n 0, 1) := by decide +kernel
theorem dX11_lacks_1 : decode cX11_lacks 1 = .ok (.getfield 101, 3) := by decide +kernel
theorem dX11_lacks_4 : decode cX11_lacks 4 = .ok (.ifCond .ne 7, 3) := by decide +kernel
theorem dX11_lacks_7 : decode cX11_lacks 7 = .ok (.iconst 1, 1) := by decide +kernel
theorem dX11_lacks_8 : decode cX11_lacks 8 = .ok (.goto 4, 3) := by decide +kernel
theorem dX11_lacks_11 : decode cX11_lacks 11 = .ok (.iconst 0, 1) := by decide +kernel
theorem dX11_lacks_12 : decode cX11_lacks 12 = .ok (.ireturn, 1) := by decide +kernel
set_option maxRecDepth 20000 in
theorem ggX11_isGallery_X11_in : GoodIn wsX11_isGallery wsX11_in := goodIn_r _ [5] (by decide +kernel) (by decide +kernel)
set_option maxRecDepth 20000 in
theorem gX11_isGallery_X11_in : GoodIn wsX11_isGallery (va_wsS RX11 78 yX11_in wsX11_in) := goodIn_app (goodIn_of _ (by decide +kernel)) ggX11_isGallery_X11_in
theorem dX11_isGallery_0 : decode cX11_isGallery 0 = .ok (.iload_n 1, 1) := by decide +kernel
theorem dX11_isGallery_1 : decode cX11_isGallery 1 = .ok (.i2l, 1) := by decide +kernel
theorem dX11_isGallery_2 : decode cX11_isGallery 2 = .ok (.lconst 0, 1) := by decide +kernel
theorem dX11_isGallery_3 : decode cX11_isGallery 3 = .ok (.aload_n 0, 1) := by decide +kernel
theorem dX11_isGallery_4 : decode cX11_isGallery 4 = .ok (.getfield 101, 3) := by decide +kernel
theorem dX11_isGallery_7 : decode cX11_isGallery 7 = .ok (.iconst 1, 1) := by decide +kernel
theorem dX11_isGallery_8 : decode cX11_isGallery 8 = .ok (.isub, 1) := by decide +kernel
theorem dX11_isGallery_9 : decode cX11_isGallery 9 = .ok (.i2l, 1) := by decide +kernel
theorem dX11_isGallery_10 : decode cX11_isGallery 10 = .ok (.invokestatic 78, 3) := by decide +kernel
theorem dX11_isGallery_13 : decode cX11_isGallery 13 = .ok (.ireturn, 1) := by decide +kernel
set_option maxRecDepth 20000 in
theorem ggX11_isKnot_X11_lacks : GoodIn wsX11_isKnot wsX11_lacks := goodIn_r _ [6, 7, 11, 12, 13, 14, 15, 16, 17, 18, 19, 20, 21, 22, 23, 24, 25, 26, 27, 28, 29, 30, 31, 32, 33, 34, 35, 36, 37, 38, 39, 40, 41, 42, 43, 44, 45, 46] (by decide +kernel) (by decide +kernel)
set_option maxRecDepth 20000 in
theorem gX11_isKnot_X11_lacks : GoodIn wsX11_isKnot (wsV RX11 104 RX11 yX11_lacks wsX11_lacks) := goodIn_app (goodIn_of _ (by decide +kernel)) ggX11_isKnot_X11_lacks
set_option maxRecDepth 20000 in
theorem ggX11_isKnot_X11_in : GoodIn wsX11_isKnot wsX11_in := goodIn_r _ [10] (by decide +kernel) (by decide +kernel)
set_option maxRecDepth 20000 in
theorem gX11_isKnot_X11_in : GoodIn wsX11_isKnot (va_wsS RX11 78 yX11_in wsX11_in) := goodIn_app (goodIn_of _ (by decide +kernel)) ggX11_isKnot_X11_in
theorem dX11_isKnot_0 : decode cX11_isKnot 0 = .ok (.aload_n 0, 1) := by decide +kernel
theorem dX11_isKnot_1 : decode cX11_isKnot 1 = .ok (.invokevirtual 104, 3) := by decide +kernel
theorem dX11_isKnot_4 : decode cX11_isKnot 4 = .ok (.ifCond .ne 19, 3) := by decide +kernel
theorem dX11_isKnot_7 : decode cX11_isKnot 7 = .ok (.iload_n 1, 1) := by decide +kernel
theorem dX11_isKnot_8 : decode cX11_isKnot 8 = .ok (.i2l, 1) := by decide +kernel
theorem dX11_isKnot_9 : decode cX11_isKnot 9 = .ok (.lconst 0, 1) := by decide +kernel
theorem dX11_isKnot_10 : decode cX11_isKnot 10 = .ok (.ldc2_w 82, 3) := by decide +kernel
theorem dX11_isKnot_13 : decode cX11_isKnot 13 = .ok (.invokestatic 78, 3) := by decide +kernel
theorem dX11_isKnot_16 : decode cX11_isKnot 16 = .ok (.ifCond .eq 7, 3) := by decide +kernel
theorem dX11_isKnot_19 : decode cX11_isKnot 19 = .ok (.iconst 1, 1) := by decide +kernel
theorem dX11_isKnot_20 : decode cX11_isKnot 20 = .ok (.goto 4, 3) := by decide +kernel
theorem dX11_isKnot_23 : decode cX11_isKnot 23 = .ok (.iconst 0, 1) := by decide +kernel
theorem dX11_isKnot_24 : decode cX11_isKnot 24 = .ok (.ireturn, 1) := by decide +kernel
set_option maxRecDepth 20000 in
theorem ggX11_mine_X11_faultOf : GoodIn wsX11_mine wsX11_faultOf := goodIn_r _ [20, 9, 4, 3, 2, 1, 21, 22, 23, 24, 19, 25, 7, 26, 27, 28, 29, 30, 31, 32, 33, 34, 35, 36, 37, 38, 39, 40, 41, 42, 43, 44, 45, 46, 47, 48, 49, 50, 51, 52, 53, 54, 55, 56, 57, 58, 59, 60, 61, 62, 63, 64, 65, 66, 67, 68, 69, 70, 71] (by decide +kernel) (by decide +kernel)
set_option maxRecDepth 20000 in
theorem gX11_mine_X11_faultOf : GoodIn wsX11_mine (wsV RX11 97 RX11 yX11_faultOf wsX11_faultOf) := goodIn_app (goodIn_of _ (by decide +kernel)) ggX11_mine_X11_faultOf
theorem dX11_mine_0 : decode cX11_mine 0 = .ok (.aload_n 0, 1) := by decide +kernel
theorem dX11_mine_1 : decode cX11_mine 1 = .ok (.invokevirtual 97, 3) := by decide +kernel
theorem dX11_mine_4 : decode cX11_mine 4 = .ok (.aload_n 0, 1) := by decide +kernel
theorem dX11_mine_5 : decode cX11_mine 5 = .ok (.getfield 67, 3) := by decide +kernel
theorem dX11_mine_8 : decode cX11_mine 8 = .ok (.if_icmp .lt 19, 3) := by decide +kernel
theorem dX11_mine_11 : decode cX11_mine 11 = .ok (.aload_n 0, 1) := by decide +kernel
theorem dX11_mine_12 : decode cX11_mine 12 = .ok (.getfield 73, 3) := by decide +kernel
theorem dX11_mine_15 : decode cX11_mine 15 = .ok (.iconst 5, 1) := by decide +kernel
theorem dX11_mine_16 : decode cX11_mine 16 = .ok (.if_icmp .ne 11, 3) := by decide +kernel
theorem dX11_mine_19 : decode cX11_mine 19 = .ok (.aload_n 0, 1) := by decide +kernel
theorem dX11_mine_20 : decode cX11_mine 20 = .ok (.getfield 91, 3) := by decide +kernel
theorem dX11_mine_23 : decode cX11_mine 23 = .ok (.iconst 2, 1) := by decide +kernel
theorem dX11_mine_24 : decode cX11_mine 24 = .ok (.if_icmp .ge 6, 3) := by decide +kernel
theorem dX11_mine_27 : decode cX11_mine 27 = .ok (.bipush (-103), 2) := by decide +kernel
theorem dX11_mine_29 : decode cX11_mine 29 = .ok (.ireturn, 1) := by decide +kernel
theorem dX11_mine_30 : decode cX11_mine 30 = .ok (.aload_n 0, 1) := by decide +kernel
theorem dX11_mine_31 : decode cX11_mine 31 = .ok (.aload_n 0, 1) := by decide +kernel
theorem dX11_mine_32 : decode cX11_mine 32 = .ok (.getfield 70, 3) := by decide +kernel
theorem dX11_mine_35 : decode cX11_mine 35 = .ok (.putfield 101, 3) := by decide +kernel
theorem dX11_mine_38 : decode cX11_mine 38 = .ok (.iconst 0, 1) := by decide +kernel
theorem dX11_mine_39 : decode cX11_mine 39 = .ok (.istore_n 1, 1) := by decide +kernel
theorem dX11_mine_40 : decode cX11_mine 40 = .ok (.iload_n 1, 1) := by decide +kernel
theorem dX11_mine_41 : decode cX11_mine 41 = .ok (.iconst 4, 1) := by decide +kernel
theorem dX11_mine_42 : decode cX11_mine 42 = .ok (.aload_n 0, 1) := by decide +kernel
theorem dX11_mine_43 : decode cX11_mine 43 = .ok (.getfield 101, 3) := by decide +kernel
theorem dX11_mine_46 : decode cX11_mine 46 = .ok (.imul, 1) := by decide +kernel
theorem dX11_mine_47 : decode cX11_mine 47 = .ok (.if_icmp .ge 21, 3) := by decide +kernel
theorem dX11_mine_50 : decode cX11_mine 50 = .ok (.aload_n 0, 1) := by decide +kernel
theorem dX11_mine_51 : decode cX11_mine 51 = .ok (.getfield 19, 3) := by decide +kernel
theorem dX11_mine_54 : decode cX11_mine 54 = .ok (.iload_n 1, 1) := by decide +kernel
theorem dX11_mine_55 : decode cX11_mine 55 = .ok (.aload_n 0, 1) := by decide +kernel
theorem dX11_mine_56 : decode cX11_mine 56 = .ok (.getfield 13, 3) := by decide +kernel
theorem dX11_mine_59 : decode cX11_mine 59 = .ok (.iload_n 1, 1) := by decide +kernel
theorem dX11_mine_60 : decode cX11_mine 60 = .ok (.iaload, 1) := by decide +kernel
theorem dX11_mine_61 : decode cX11_mine 61 = .ok (.iastore, 1) := by decide +kernel
theorem dX11_mine_62 : decode cX11_mine 62 = .ok (.iinc 1 1, 3) := by decide +kernel
theorem dX11_mine_65 : decode cX11_mine 65 = .ok (.goto (-25), 3) := by decide +kernel
theorem dX11_mine_68 : decode cX11_mine 68 = .ok (.iconst 0, 1) := by decide +kernel
theorem dX11_mine_69 : decode cX11_mine 69 = .ok (.istore_n 1, 1) := by decide +kernel
theorem dX11_mine_70 : decode cX11_mine 70 = .ok (.iload_n 1, 1) := by decide +kernel
theorem dX11_mine_71 : decode cX11_mine 71 = .ok (.bipush 7, 2) := by decide +kernel
theorem dX11_mine_73 : decode cX11_mine 73 = .ok (.if_icmp .ge 28, 3) := by decide +kernel
theorem dX11_mine_76 : decode cX11_mine 76 = .ok (.aload_n 0, 1) := by decide +kernel
theorem dX11_mine_77 : decode cX11_mine 77 = .ok (.getfield 22, 3) := by decide +kernel
theorem dX11_mine_80 : decode cX11_mine 80 = .ok (.iload_n 1, 1) := by decide +kernel
theorem dX11_mine_81 : decode cX11_mine 81 = .ok (.aload_n 0, 1) := by decide +kernel
theorem dX11_mine_82 : decode cX11_mine 82 = .ok (.getfield 16, 3) := by decide +kernel
theorem dX11_mine_85 : decode cX11_mine 85 = .ok (.iload_n 1, 1) := by decide +kernel
theorem dX11_mine_86 : decode cX11_mine 86 = .ok (.iaload, 1) := by decide +kernel
theorem dX11_mine_87 : decode cX11_mine 87 = .ok (.iastore, 1) := by decide +kernel
theorem dX11_mine_88 : decode cX11_mine 88 = .ok (.aload_n 0, 1) := by decide +kernel
theorem dX11_mine_89 : decode cX11_mine 89 = .ok (.getfield 25, 3) := by decide +kernel
theorem dX11_mine_92 : decode cX11_mine 92 = .ok (.iload_n 1, 1) := by decide +kernel
theorem dX11_mine_93 : decode cX11_mine 93 = .ok (.iconst 0, 1) := by decide +kernel
theorem dX11_mine_94 : decode cX11_mine 94 = .ok (.iastore, 1) := by decide +kernel
theorem dX11_mine_95 : decode cX11_mine 95 = .ok (.iinc 1 1, 3) := by decide +kernel
theorem dX11_mine_98 : decode cX11_mine 98 = .ok (.goto (-28), 3) := by decide +kernel
theorem dX11_mine_101 : decode cX11_mine 101 = .ok (.aload_n 0, 1) := by decide +kernel
theorem dX11_mine_102 : decode cX11_mine 102 = .ok (.iconst 0, 1) := by decide +kernel
theorem dX11_mine_103 : decode cX11_mine 103 = .ok (.putfield 108, 3) := by decide +kernel
theorem dX11_mine_106 : decode cX11_mine 106 = .ok (.aload_n 0, 1) := by decide +kernel
theorem dX11_mine_107 : decode cX11_mine 107 = .ok (.iconst 0, 1) := by decide +kernel
theorem dX11_mine_108 : decode cX11_mine 108 = .ok (.putfield 111, 3) := by decide +kernel
theorem dX11_mine_111 : decode cX11_mine 111 = .ok (.aload_n 0, 1) := by decide +kernel
theorem dX11_mine_112 : decode cX11_mine 112 = .ok (.iconst 0, 1) := by decide +kernel
theorem dX11_mine_113 : decode cX11_mine 113 = .ok (.putfield 114, 3) := by decide +kernel
theorem dX11_mine_116 : decode cX11_mine 116 = .ok (.aload_n 0, 1) := by decide +kernel
theorem dX11_mine_117 : decode cX11_mine 117 = .ok (.iconst 0, 1) := by decide +kernel
theorem dX11_mine_118 : decode cX11_mine 118 = .ok (.putfield 117, 3) := by decide +kernel
theorem dX11_mine_121 : decode cX11_mine 121 = .ok (.aload_n 0, 1) := by decide +kernel
theorem dX11_mine_122 : decode cX11_mine 122 = .ok (.dup, 1) := by decide +kernel
theorem dX11_mine_123 : decode cX11_mine 123 = .ok (.getfield 120, 3) := by decide +kernel
theorem dX11_mine_126 : decode cX11_mine 126 = .ok (.iconst 1, 1) := by decide +kernel
theorem dX11_mine_127 : decode cX11_mine 127 = .ok (.iadd, 1) := by decide +kernel
theorem dX11_mine_128 : decode cX11_mine 128 = .ok (.putfield 120, 3) := by decide +kernel
theorem dX11_mine_131 : decode cX11_mine 131 = .ok (.aload_n 0, 1) := by decide +kernel
theorem dX11_mine_132 : decode cX11_mine 132 = .ok (.iconst 0, 1) := by decide +kernel
theorem dX11_mine_133 : decode cX11_mine 133 = .ok (.putfield 67, 3) := by decide +kernel
theorem dX11_mine_136 : decode cX11_mine 136 = .ok (.aload_n 0, 1) := by decide +kernel
theorem dX11_mine_137 : decode cX11_mine 137 = .ok (.getfield 101, 3) := by decide +kernel
theorem dX11_mine_140 : decode cX11_mine 140 = .ok (.ireturn, 1) := by decide +kernel
theorem dX11_isOpen_0 : decode cX11_isOpen 0 = .ok (.aload_n 0, 1) := by decide +kernel
theorem dX11_isOpen_1 : decode cX11_isOpen 1 = .ok (.getfield 108, 3) := by decide +kernel
theorem dX11_isOpen_4 : decode cX11_isOpen 4 = .ok (.iload_n 1, 1) := by decide +kernel
theorem dX11_isOpen_5 : decode cX11_isOpen 5 = .ok (.ishr, 1) := by decide +kernel
theorem dX11_isOpen_6 : decode cX11_isOpen 6 = .ok (.iconst 1, 1) := by decide +kernel
theorem dX11_isOpen_7 : decode cX11_isOpen 7 = .ok (.iand, 1) := by decide +kernel
theorem dX11_isOpen_8 : decode cX11_isOpen 8 = .ok (.ifCond .ne 7, 3) := by decide +kernel
theorem dX11_isOpen_11 : decode cX11_isOpen 11 = .ok (.iconst 1, 1) := by decide +kernel
theorem dX11_isOpen_12 : decode cX11_isOpen 12 = .ok (.goto 4, 3) := by decide +kernel
theorem dX11_isOpen_15 : decode cX11_isOpen 15 = .ok (.iconst 0, 1) := by decide +kernel
theorem dX11_isOpen_16 : decode cX11_isOpen 16 = .ok (.ireturn, 1) := by decide +kernel
theorem dX11_otherEnd_0 : decode cX11_otherEnd 0 = .ok (.aload_n 0, 1) := by decide +kernel
theorem dX11_otherEnd_1 : decode cX11_otherEnd 1 = .ok (.getfield 19, 3) := by decide +kernel
theorem dX11_otherEnd_4 : decode cX11_otherEnd 4 = .ok (.iconst 4, 1) := by decide +kernel
theorem dX11_otherEnd_5 : decode cX11_otherEnd 5 = .ok (.iload_n 1, 1) := by decide +kernel
theorem dX11_otherEnd_6 : decode cX11_otherEnd 6 = .ok (.imul, 1) := by decide +kernel
theorem dX11_otherEnd_7 : decode cX11_otherEnd 7 = .ok (.iaload, 1) := by decide +kernel
theorem dX11_otherEnd_8 : decode cX11_otherEnd 8 = .ok (.iload_n 2, 1) := by decide +kernel
theorem dX11_otherEnd_9 : decode cX11_otherEnd 9 = .ok (.if_icmp .ne 16, 3) := by decide +kernel
theorem dX11_otherEnd_12 : decode cX11_otherEnd 12 = .ok (.aload_n 0, 1) := by decide +kernel
theorem dX11_otherEnd_13 : decode cX11_otherEnd 13 = .ok (.getfield 19, 3) := by decide +kernel
theorem dX11_otherEnd_16 : decode cX11_otherEnd 16 = .ok (.iconst 4, 1) := by decide +kernel
theorem dX11_otherEnd_17 : decode cX11_otherEnd 17 = .ok (.iload_n 1, 1) := by decide +kernel
theorem dX11_otherEnd_18 : decode cX11_otherEnd 18 = .ok (.imul, 1) := by decide +kernel
theorem dX11_otherEnd_19 : decode cX11_otherEnd 19 = .ok (.iconst 1, 1) := by decide +kernel
theorem dX11_otherEnd_20 : decode cX11_otherEnd 20 = .ok (.iadd, 1) := by decide +kernel
theorem dX11_otherEnd_21 : decode cX11_otherEnd 21 = .ok (.iaload, 1) := by decide +kernel
theorem dX11_otherEnd_22 : decode cX11_otherEnd 22 = .ok (.goto 29, 3) := by decide +kernel
theorem dX11_otherEnd_25 : decode cX11_otherEnd 25 = .ok (.aload_n 0, 1) := by decide +kernel
theorem dX11_otherEnd_26 : decode cX11_otherEnd 26 = .ok (.getfield 19, 3) := by decide +kernel
theorem dX11_otherEnd_29 : decode cX11_otherEnd 29 = .ok (.iconst 4, 1) := by decide +kernel
theorem dX11_otherEnd_30 : decode cX11_otherEnd 30 = .ok (.iload_n 1, 1) := by decide +kernel
theorem dX11_otherEnd_31 : decode cX11_otherEnd 31 = .ok (.imul, 1) := by decide +kernel
theorem dX11_otherEnd_32 : decode cX11_otherEnd 32 = .ok (.iconst 1, 1) := by decide +kernel
theorem dX11_otherEnd_33 : decode cX11_otherEnd 33 = .ok (.iadd, 1) := by decide +kernel
theorem dX11_otherEnd_34 : decode cX11_otherEnd 34 = .ok (.iaload, 1) := by decide +kernel
theorem dX11_otherEnd_35 : decode cX11_otherEnd 35 = .ok (.iload_n 2, 1) := by decide +kernel
theorem dX11_otherEnd_36 : decode cX11_otherEnd 36 = .ok (.if_icmp .ne 14, 3) := by decide +kernel
theorem dX11_otherEnd_39 : decode cX11_otherEnd 39 = .ok (.aload_n 0, 1) := by decide +kernel
theorem dX11_otherEnd_40 : decode cX11_otherEnd 40 = .ok (.getfield 19, 3) := by decide +kernel
theorem dX11_otherEnd_43 : decode cX11_otherEnd 43 = .ok (.iconst 4, 1) := by decide +kernel
theorem dX11_otherEnd_44 : decode cX11_otherEnd 44 = .ok (.iload_n 1, 1) := by decide +kernel
theorem dX11_otherEnd_45 : decode cX11_otherEnd 45 = .ok (.imul, 1) := by decide +kernel
theorem dX11_otherEnd_46 : decode cX11_otherEnd 46 = .ok (.iaload, 1) := by decide +kernel
theorem dX11_otherEnd_47 : decode cX11_otherEnd 47 = .ok (.goto 4, 3) := by decide +kernel
theorem dX11_otherEnd_50 : decode cX11_otherEnd 50 = .ok (.iconst (-1), 1) := by decide +kernel
theorem dX11_otherEnd_51 : decode cX11_otherEnd 51 = .ok (.ireturn, 1) := by decide +kernel
theorem dX11_shaftHeight_0 : decode cX11_shaftHeight 0 = .ok (.bipush 12, 2) := by decide +kernel
theorem dX11_shaftHeight_2 : decode cX11_shaftHeight 2 = .ok (.aload_n 0, 1) := by decide +kernel
theorem dX11_shaftHeight_3 : decode cX11_shaftHeight 3 = .ok (.getfield 111, 3) := by decide +kernel
theorem dX11_shaftHeight_6 : decode cX11_shaftHeight 6 = .ok (.iconst 1, 1) := by decide +kernel
theorem dX11_shaftHeight_7 : decode cX11_shaftHeight 7 = .ok (.if_icmp .ne 15, 3) := by decide +kernel
theorem dX11_shaftHeight_10 : decode cX11_shaftHeight 10 = .ok (.bipush 9, 2) := by decide +kernel
theorem dX11_shaftHeight_12 : decode cX11_shaftHeight 12 = .ok (.aload_n 0, 1) := by decide +kernel
theorem dX11_shaftHeight_13 : decode cX11_shaftHeight 13 = .ok (.getfield 22, 3) := by decide +kernel
theorem dX11_shaftHeight_16 : decode cX11_shaftHeight 16 = .ok (.iload_n 1, 1) := by decide +kernel
theorem dX11_shaftHeight_17 : decode cX11_shaftHeight 17 = .ok (.iaload, 1) := by decide +kernel
theorem dX11_shaftHeight_18 : decode cX11_shaftHeight 18 = .ok (.isub, 1) := by decide +kernel
theorem dX11_shaftHeight_19 : decode cX11_shaftHeight 19 = .ok (.goto 9, 3) := by decide +kernel
theorem dX11_shaftHeight_22 : decode cX11_shaftHeight 22 = .ok (.aload_n 0, 1) := by decide +kernel
theorem dX11_shaftHeight_23 : decode cX11_shaftHeight 23 = .ok (.getfield 22, 3) := by decide +kernel
theorem dX11_shaftHeight_26 : decode cX11_shaftHeight 26 = .ok (.iload_n 1, 1) := by decide +kernel
theorem dX11_shaftHeight_27 : decode cX11_shaftHeight 27 = .ok (.iaload, 1) := by decide +kernel
theorem dX11_shaftHeight_28 : decode cX11_shaftHeight 28 = .ok (.imul, 1) := by decide +kernel
theorem dX11_shaftHeight_29 : decode cX11_shaftHeight 29 = .ok (.ireturn, 1) := by decide +kernel
set_option maxRecDepth 20000 in
theorem ggX11_laySteps_X11_isOpen : GoodIn wsX11_laySteps wsX11_isOpen := goodIn_r _ [9, 10, 11, 12, 13, 14, 15, 16, 17, 18, 19, 20, 21, 22, 23, 24, 25, 26, 27, 28, 29, 30, 31, 32, 33, 34, 35, 36, 37, 38, 39, 40, 41, 42, 43, 44, 45, 46] (by decide +kernel) (by decide +kernel)
set_option maxRecDepth 20000 in
theorem gX11_laySteps_X11_isOpen : GoodIn wsX11_laySteps (wsV RX11 124 RX11 yX11_isOpen wsX11_isOpen) := goodIn_app (goodIn_of _ (by decide +kernel)) ggX11_laySteps_X11_isOpen
theorem dX11_laySteps_0 : decode cX11_laySteps 0 = .ok (.iconst 0, 1) := by decide +kernel
theorem dX11_laySteps_1 : decode cX11_laySteps 1 = .ok (.istore_n 2, 1) := by decide +kernel
theorem dX11_laySteps_2 : decode cX11_laySteps 2 = .ok (.iload_n 2, 1) := by decide +kernel
theorem dX11_laySteps_3 : decode cX11_laySteps 3 = .ok (.bipush 7, 2) := by decide +kernel
theorem dX11_laySteps_5 : decode cX11_laySteps 5 = .ok (.if_icmp .ge 26, 3) := by decide +kernel
theorem dX11_laySteps_8 : decode cX11_laySteps 8 = .ok (.aload_n 0, 1) := by decide +kernel
theorem dX11_laySteps_9 : decode cX11_laySteps 9 = .ok (.getfield 31, 3) := by decide +kernel
theorem dX11_laySteps_12 : decode cX11_laySteps 12 = .ok (.iload_n 2, 1) := by decide +kernel
theorem dX11_laySteps_13 : decode cX11_laySteps 13 = .ok (.iload_n 2, 1) := by decide +kernel
theorem dX11_laySteps_14 : decode cX11_laySteps 14 = .ok (.iload_n 1, 1) := by decide +kernel
theorem dX11_laySteps_15 : decode cX11_laySteps 15 = .ok (.if_icmp .ne 7, 3) := by decide +kernel
theorem dX11_laySteps_18 : decode cX11_laySteps 18 = .ok (.iconst 0, 1) := by decide +kernel
theorem dX11_laySteps_19 : decode cX11_laySteps 19 = .ok (.goto 5, 3) := by decide +kernel
theorem dX11_laySteps_22 : decode cX11_laySteps 22 = .ok (.ldc 123, 2) := by decide +kernel
theorem dX11_laySteps_24 : decode cX11_laySteps 24 = .ok (.iastore, 1) := by decide +kernel
theorem dX11_laySteps_25 : decode cX11_laySteps 25 = .ok (.iinc 2 1, 3) := by decide +kernel
theorem dX11_laySteps_28 : decode cX11_laySteps 28 = .ok (.goto (-26), 3) := by decide +kernel
theorem dX11_laySteps_31 : decode cX11_laySteps 31 = .ok (.iconst 0, 1) := by decide +kernel
theorem dX11_laySteps_32 : decode cX11_laySteps 32 = .ok (.istore_n 2, 1) := by decide +kernel
theorem dX11_laySteps_33 : decode cX11_laySteps 33 = .ok (.iload_n 2, 1) := by decide +kernel
theorem dX11_laySteps_34 : decode cX11_laySteps 34 = .ok (.bipush 7, 2) := by decide +kernel
theorem dX11_laySteps_36 : decode cX11_laySteps 36 = .ok (.if_icmp .ge 145, 3) := by decide +kernel
theorem dX11_laySteps_39 : decode cX11_laySteps 39 = .ok (.iconst 0, 1) := by decide +kernel
theorem dX11_laySteps_40 : decode cX11_laySteps 40 = .ok (.istore_n 3, 1) := by decide +kernel
theorem dX11_laySteps_41 : decode cX11_laySteps 41 = .ok (.iload_n 3, 1) := by decide +kernel
theorem dX11_laySteps_42 : decode cX11_laySteps 42 = .ok (.aload_n 0, 1) := by decide +kernel
theorem dX11_laySteps_43 : decode cX11_laySteps 43 = .ok (.getfield 101, 3) := by decide +kernel
theorem dX11_laySteps_46 : decode cX11_laySteps 46 = .ok (.if_icmp .ge 129, 3) := by decide +kernel
theorem dX11_laySteps_49 : decode cX11_laySteps 49 = .ok (.aload_n 0, 1) := by decide +kernel
theorem dX11_laySteps_50 : decode cX11_laySteps 50 = .ok (.getfield 19, 3) := by decide +kernel
theorem dX11_laySteps_53 : decode cX11_laySteps 53 = .ok (.iconst 4, 1) := by decide +kernel
theorem dX11_laySteps_54 : decode cX11_laySteps 54 = .ok (.iload_n 3, 1) := by decide +kernel
theorem dX11_laySteps_55 : decode cX11_laySteps 55 = .ok (.imul, 1) := by decide +kernel
theorem dX11_laySteps_56 : decode cX11_laySteps 56 = .ok (.iaload, 1) := by decide +kernel
theorem dX11_laySteps_57 : decode cX11_laySteps 57 = .ok (.istore 4, 2) := by decide +kernel
theorem dX11_laySteps_59 : decode cX11_laySteps 59 = .ok (.aload_n 0, 1) := by decide +kernel
theorem dX11_laySteps_60 : decode cX11_laySteps 60 = .ok (.getfield 19, 3) := by decide +kernel
theorem dX11_laySteps_63 : decode cX11_laySteps 63 = .ok (.iconst 4, 1) := by decide +kernel
theorem dX11_laySteps_64 : decode cX11_laySteps 64 = .ok (.iload_n 3, 1) := by decide +kernel
theorem dX11_laySteps_65 : decode cX11_laySteps 65 = .ok (.imul, 1) := by decide +kernel
theorem dX11_laySteps_66 : decode cX11_laySteps 66 = .ok (.iconst 1, 1) := by decide +kernel
theorem dX11_laySteps_67 : decode cX11_laySteps 67 = .ok (.iadd, 1) := by decide +kernel
theorem dX11_laySteps_68 : decode cX11_laySteps 68 = .ok (.iaload, 1) := by decide +kernel
theorem dX11_laySteps_69 : decode cX11_laySteps 69 = .ok (.istore 5, 2) := by decide +kernel
theorem dX11_laySteps_71 : decode cX11_laySteps 71 = .ok (.aload_n 0, 1) := by decide +kernel
theorem dX11_laySteps_72 : decode cX11_laySteps 72 = .ok (.iload_n 3, 1) := by decide +kernel
theorem dX11_laySteps_73 : decode cX11_laySteps 73 = .ok (.invokevirtual 124, 3) := by decide +kernel
theorem dX11_laySteps_76 : decode cX11_laySteps 76 = .ok (.ifCond .eq 93, 3) := by decide +kernel
theorem dX11_laySteps_79 : decode cX11_laySteps 79 = .ok (.aload_n 0, 1) := by decide +kernel
theorem dX11_laySteps_80 : decode cX11_laySteps 80 = .ok (.getfield 31, 3) := by decide +kernel
theorem dX11_laySteps_83 : decode cX11_laySteps 83 = .ok (.iload 4, 2) := by decide +kernel
theorem dX11_laySteps_85 : decode cX11_laySteps 85 = .ok (.aload_n 0, 1) := by decide +kernel
theorem dX11_laySteps_86 : decode cX11_laySteps 86 = .ok (.getfield 31, 3) := by decide +kernel
theorem dX11_laySteps_89 : decode cX11_laySteps 89 = .ok (.iload 5, 2) := by decide +kernel
theorem dX11_laySteps_91 : decode cX11_laySteps 91 = .ok (.iaload, 1) := by decide +kernel
theorem dX11_laySteps_92 : decode cX11_laySteps 92 = .ok (.iconst 1, 1) := by decide +kernel
theorem dX11_laySteps_93 : decode cX11_laySteps 93 = .ok (.iadd, 1) := by decide +kernel
theorem dX11_laySteps_94 : decode cX11_laySteps 94 = .ok (.aload_n 0, 1) := by decide +kernel
theorem dX11_laySteps_95 : decode cX11_laySteps 95 = .ok (.getfield 31, 3) := by decide +kernel
theorem dX11_laySteps_98 : decode cX11_laySteps 98 = .ok (.iload 4, 2) := by decide +kernel
theorem dX11_laySteps_100 : decode cX11_laySteps 100 = .ok (.iaload, 1) := by decide +kernel
theorem dX11_laySteps_101 : decode cX11_laySteps 101 = .ok (.if_icmp .ge 15, 3) := by decide +kernel
theorem dX11_laySteps_104 : decode cX11_laySteps 104 = .ok (.aload_n 0, 1) := by decide +kernel
theorem dX11_laySteps_105 : decode cX11_laySteps 105 = .ok (.getfield 31, 3) := by decide +kernel
theorem dX11_laySteps_108 : decode cX11_laySteps 108 = .ok (.iload 5, 2) := by decide +kernel
theorem dX11_laySteps_110 : decode cX11_laySteps 110 = .ok (.iaload, 1) := by decide +kernel
theorem dX11_laySteps_111 : decode cX11_laySteps 111 = .ok (.iconst 1, 1) := by decide +kernel
theorem dX11_laySteps_112 : decode cX11_laySteps 112 = .ok (.iadd, 1) := by decide +kernel
theorem dX11_laySteps_113 : decode cX11_laySteps 113 = .ok (.goto 10, 3) := by decide +kernel
theorem dX11_laySteps_116 : decode cX11_laySteps 116 = .ok (.aload_n 0, 1) := by decide +kernel
theorem dX11_laySteps_117 : decode cX11_laySteps 117 = .ok (.getfield 31, 3) := by decide +kernel
theorem dX11_laySteps_120 : decode cX11_laySteps 120 = .ok (.iload 4, 2) := by decide +kernel
theorem dX11_laySteps_122 : decode cX11_laySteps 122 = .ok (.iaload, 1) := by decide +kernel
theorem dX11_laySteps_123 : decode cX11_laySteps 123 = .ok (.iastore, 1) := by decide +kernel
theorem dX11_laySteps_124 : decode cX11_laySteps 124 = .ok (.aload_n 0, 1) := by decide +kernel
theorem dX11_laySteps_125 : decode cX11_laySteps 125 = .ok (.getfield 31, 3) := by decide +kernel
theorem dX11_laySteps_128 : decode cX11_laySteps 128 = .ok (.iload 5, 2) := by decide +kernel
theorem dX11_laySteps_130 : decode cX11_laySteps 130 = .ok (.aload_n 0, 1) := by decide +kernel
theorem dX11_laySteps_131 : decode cX11_laySteps 131 = .ok (.getfield 31, 3) := by decide +kernel
theorem dX11_laySteps_134 : decode cX11_laySteps 134 = .ok (.iload 4, 2) := by decide +kernel
theorem dX11_laySteps_136 : decode cX11_laySteps 136 = .ok (.iaload, 1) := by decide +kernel
theorem dX11_laySteps_137 : decode cX11_laySteps 137 = .ok (.iconst 1, 1) := by decide +kernel
theorem dX11_laySteps_138 : decode cX11_laySteps 138 = .ok (.iadd, 1) := by decide +kernel
theorem dX11_laySteps_139 : decode cX11_laySteps 139 = .ok (.aload_n 0, 1) := by decide +kernel
theorem dX11_laySteps_140 : decode cX11_laySteps 140 = .ok (.getfield 31, 3) := by decide +kernel
theorem dX11_laySteps_143 : decode cX11_laySteps 143 = .ok (.iload 5, 2) := by decide +kernel
theorem dX11_laySteps_145 : decode cX11_laySteps 145 = .ok (.iaload, 1) := by decide +kernel
theorem dX11_laySteps_146 : decode cX11_laySteps 146 = .ok (.if_icmp .ge 15, 3) := by decide +kernel
theorem dX11_laySteps_149 : decode cX11_laySteps 149 = .ok (.aload_n 0, 1) := by decide +kernel
theorem dX11_laySteps_150 : decode cX11_laySteps 150 = .ok (.getfield 31, 3) := by decide +kernel
theorem dX11_laySteps_153 : decode cX11_laySteps 153 = .ok (.iload 4, 2) := by decide +kernel
theorem dX11_laySteps_155 : decode cX11_laySteps 155 = .ok (.iaload, 1) := by decide +kernel
theorem dX11_laySteps_156 : decode cX11_laySteps 156 = .ok (.iconst 1, 1) := by decide +kernel
theorem dX11_laySteps_157 : decode cX11_laySteps 157 = .ok (.iadd, 1) := by decide +kernel
theorem dX11_laySteps_158 : decode cX11_laySteps 158 = .ok (.goto 10, 3) := by decide +kernel
theorem dX11_laySteps_161 : decode cX11_laySteps 161 = .ok (.aload_n 0, 1) := by decide +kernel
theorem dX11_laySteps_162 : decode cX11_laySteps 162 = .ok (.getfield 31, 3) := by decide +kernel
theorem dX11_laySteps_165 : decode cX11_laySteps 165 = .ok (.iload 5, 2) := by decide +kernel
theorem dX11_laySteps_167 : decode cX11_laySteps 167 = .ok (.iaload, 1) := by decide +kernel
theorem dX11_laySteps_168 : decode cX11_laySteps 168 = .ok (.iastore, 1) := by decide +kernel
theorem dX11_laySteps_169 : decode cX11_laySteps 169 = .ok (.iinc 3 1, 3) := by decide +kernel
theorem dX11_laySteps_172 : decode cX11_laySteps 172 = .ok (.goto (-131), 3) := by decide +kernel
theorem dX11_laySteps_175 : decode cX11_laySteps 175 = .ok (.iinc 2 1, 3) := by decide +kernel
theorem dX11_laySteps_178 : decode cX11_laySteps 178 = .ok (.goto (-145), 3) := by decide +kernel
theorem dX11_laySteps_181 : decode cX11_laySteps 181 = .ok (.return_, 1) := by decide +kernel
set_option maxRecDepth 20000 in
theorem ggX11_heightOf_X11_shaftHeight : GoodIn wsX11_heightOf wsX11_shaftHeight := goodIn_r _ [8, 9, 1, 21, 22, 23, 24, 25, 26, 27, 28, 29, 30, 31, 32, 33, 34, 35, 36, 37, 38, 39, 40, 41, 42, 43, 44, 45, 46, 47, 48, 49, 50, 51, 52, 53, 54, 55, 56] (by decide +kernel) (by decide +kernel)
set_option maxRecDepth 20000 in
theorem gX11_heightOf_X11_shaftHeight : GoodIn wsX11_heightOf (wsV RX11 127 RX11 yX11_shaftHeight wsX11_shaftHeight) := goodIn_app (goodIn_of _ (by decide +kernel)) ggX11_heightOf_X11_shaftHeight
set_option maxRecDepth 20000 in
theorem ggX11_heightOf_X11_laySteps : GoodIn wsX11_heightOf wsX11_laySteps := goodIn_r _ [13, 3, 2, 14, 15, 16, 17, 18, 7, 19, 20, 21, 22, 23, 24, 25, 26, 27, 28, 29, 30, 31, 32, 33, 34, 35, 36, 37, 38, 39, 40, 41, 42, 43, 44, 45, 46, 47, 48, 49, 50, 51, 52, 53, 54, 55, 56] (by decide +kernel) (by decide +kernel)
set_option maxRecDepth 20000 in
theorem gX11_heightOf_X11_laySteps : GoodIn wsX11_heightOf (wsV RX11 131 RX11 yX11_laySteps wsX11_laySteps) := goodIn_app (goodIn_of _ (by decide +kernel)) ggX11_heightOf_X11_laySteps
theorem dX11_heightOf_0 : decode cX11_heightOf 0 = .ok (.aload_n 0, 1) := by decide +kernel
theorem dX11_heightOf_1 : decode cX11_heightOf 1 = .ok (.getfield 22, 3) := by decide +kernel
theorem dX11_heightOf_4 : decode cX11_heightOf 4 = .ok (.iload_n 1, 1) := by decide +kernel
theorem dX11_heightOf_5 : decode cX11_heightOf 5 = .ok (.iaload, 1) := by decide +kernel
theorem dX11_heightOf_6 : decode cX11_heightOf 6 = .ok (.iconst (-1), 1) := by decide +kernel
theorem dX11_heightOf_7 : decode cX11_heightOf 7 = .ok (.if_icmp .eq 9, 3) := by decide +kernel
theorem dX11_heightOf_10 : decode cX11_heightOf 10 = .ok (.aload_n 0, 1) := by decide +kernel
theorem dX11_heightOf_11 : decode cX11_heightOf 11 = .ok (.iload_n 1, 1) := by decide +kernel
theorem dX11_heightOf_12 : decode cX11_heightOf 12 = .ok (.invokevirtual 127, 3) := by decide +kernel
theorem dX11_heightOf_15 : decode cX11_heightOf 15 = .ok (.ireturn, 1) := by decide +kernel
theorem dX11_heightOf_16 : decode cX11_heightOf 16 = .ok (.aload_n 0, 1) := by decide +kernel
theorem dX11_heightOf_17 : decode cX11_heightOf 17 = .ok (.iload_n 1, 1) := by decide +kernel
theorem dX11_heightOf_18 : decode cX11_heightOf 18 = .ok (.invokevirtual 131, 3) := by decide +kernel
theorem dX11_heightOf_21 : decode cX11_heightOf 21 = .ok (.ldc 123, 2) := by decide +kernel
theorem dX11_heightOf_23 : decode cX11_heightOf 23 = .ok (.istore_n 2, 1) := by decide +kernel
theorem dX11_heightOf_24 : decode cX11_heightOf 24 = .ok (.iconst 0, 1) := by decide +kernel
theorem dX11_heightOf_25 : decode cX11_heightOf 25 = .ok (.istore_n 3, 1) := by decide +kernel
theorem dX11_heightOf_26 : decode cX11_heightOf 26 = .ok (.iconst 0, 1) := by decide +kernel
theorem dX11_heightOf_27 : decode cX11_heightOf 27 = .ok (.istore 4, 2) := by decide +kernel
theorem dX11_heightOf_29 : decode cX11_heightOf 29 = .ok (.iconst 0, 1) := by decide +kernel
theorem dX11_heightOf_30 : decode cX11_heightOf 30 = .ok (.istore 5, 2) := by decide +kernel
theorem dX11_heightOf_32 : decode cX11_heightOf 32 = .ok (.iload 5, 2) := by decide +kernel
theorem dX11_heightOf_34 : decode cX11_heightOf 34 = .ok (.bipush 7, 2) := by decide +kernel
theorem dX11_heightOf_36 : decode cX11_heightOf 36 = .ok (.if_icmp .ge 136, 3) := by decide +kernel
theorem dX11_heightOf_39 : decode cX11_heightOf 39 = .ok (.aload_n 0, 1) := by decide +kernel
theorem dX11_heightOf_40 : decode cX11_heightOf 40 = .ok (.getfield 22, 3) := by decide +kernel
theorem dX11_heightOf_43 : decode cX11_heightOf 43 = .ok (.iload 5, 2) := by decide +kernel
theorem dX11_heightOf_45 : decode cX11_heightOf 45 = .ok (.iaload, 1) := by decide +kernel
theorem dX11_heightOf_46 : decode cX11_heightOf 46 = .ok (.iconst (-1), 1) := by decide +kernel
theorem dX11_heightOf_47 : decode cX11_heightOf 47 = .ok (.if_icmp .eq 119, 3) := by decide +kernel
theorem dX11_heightOf_50 : decode cX11_heightOf 50 = .ok (.aload_n 0, 1) := by decide +kernel
theorem dX11_heightOf_51 : decode cX11_heightOf 51 = .ok (.getfield 31, 3) := by decide +kernel
theorem dX11_heightOf_54 : decode cX11_heightOf 54 = .ok (.iload 5, 2) := by decide +kernel
theorem dX11_heightOf_56 : decode cX11_heightOf 56 = .ok (.iaload, 1) := by decide +kernel
theorem dX11_heightOf_57 : decode cX11_heightOf 57 = .ok (.ldc 123, 2) := by decide +kernel
theorem dX11_heightOf_59 : decode cX11_heightOf 59 = .ok (.if_icmp .ge 107, 3) := by decide +kernel
theorem dX11_heightOf_62 : decode cX11_heightOf 62 = .ok (.aload_n 0, 1) := by decide +kernel
theorem dX11_heightOf_63 : decode cX11_heightOf 63 = .ok (.getfield 31, 3) := by decide +kernel
theorem dX11_heightOf_66 : decode cX11_heightOf 66 = .ok (.iload 5, 2) := by decide +kernel
theorem dX11_heightOf_68 : decode cX11_heightOf 68 = .ok (.iaload, 1) := by decide +kernel
theorem dX11_heightOf_69 : decode cX11_heightOf 69 = .ok (.iload_n 2, 1) := by decide +kernel
theorem dX11_heightOf_70 : decode cX11_heightOf 70 = .ok (.if_icmp .ge 7, 3) := by decide +kernel
theorem dX11_heightOf_73 : decode cX11_heightOf 73 = .ok (.iconst 0, 1) := by decide +kernel
theorem dX11_heightOf_74 : decode cX11_heightOf 74 = .ok (.goto 4, 3) := by decide +kernel
theorem dX11_heightOf_77 : decode cX11_heightOf 77 = .ok (.iload_n 3, 1) := by decide +kernel
theorem dX11_heightOf_78 : decode cX11_heightOf 78 = .ok (.istore_n 3, 1) := by decide +kernel
theorem dX11_heightOf_79 : decode cX11_heightOf 79 = .ok (.aload_n 0, 1) := by decide +kernel
theorem dX11_heightOf_80 : decode cX11_heightOf 80 = .ok (.getfield 31, 3) := by decide +kernel
theorem dX11_heightOf_83 : decode cX11_heightOf 83 = .ok (.iload 5, 2) := by decide +kernel
theorem dX11_heightOf_85 : decode cX11_heightOf 85 = .ok (.iaload, 1) := by decide +kernel
theorem dX11_heightOf_86 : decode cX11_heightOf 86 = .ok (.iload_n 2, 1) := by decide +kernel
theorem dX11_heightOf_87 : decode cX11_heightOf 87 = .ok (.if_icmp .ge 7, 3) := by decide +kernel
theorem dX11_heightOf_90 : decode cX11_heightOf 90 = .ok (.iconst 0, 1) := by decide +kernel
theorem dX11_heightOf_91 : decode cX11_heightOf 91 = .ok (.goto 5, 3) := by decide +kernel
theorem dX11_heightOf_94 : decode cX11_heightOf 94 = .ok (.iload 4, 2) := by decide +kernel
theorem dX11_heightOf_96 : decode cX11_heightOf 96 = .ok (.istore 4, 2) := by decide +kernel
theorem dX11_heightOf_98 : decode cX11_heightOf 98 = .ok (.aload_n 0, 1) := by decide +kernel
theorem dX11_heightOf_99 : decode cX11_heightOf 99 = .ok (.getfield 31, 3) := by decide +kernel
theorem dX11_heightOf_102 : decode cX11_heightOf 102 = .ok (.iload 5, 2) := by decide +kernel
theorem dX11_heightOf_104 : decode cX11_heightOf 104 = .ok (.iaload, 1) := by decide +kernel
theorem dX11_heightOf_105 : decode cX11_heightOf 105 = .ok (.iload_n 2, 1) := by decide +kernel
theorem dX11_heightOf_106 : decode cX11_heightOf 106 = .ok (.if_icmp .ge 13, 3) := by decide +kernel
theorem dX11_heightOf_109 : decode cX11_heightOf 109 = .ok (.aload_n 0, 1) := by decide +kernel
theorem dX11_heightOf_110 : decode cX11_heightOf 110 = .ok (.getfield 31, 3) := by decide +kernel
theorem dX11_heightOf_113 : decode cX11_heightOf 113 = .ok (.iload 5, 2) := by decide +kernel
theorem dX11_heightOf_115 : decode cX11_heightOf 115 = .ok (.iaload, 1) := by decide +kernel
theorem dX11_heightOf_116 : decode cX11_heightOf 116 = .ok (.goto 4, 3) := by decide +kernel
theorem dX11_heightOf_119 : decode cX11_heightOf 119 = .ok (.iload_n 2, 1) := by decide +kernel
theorem dX11_heightOf_120 : decode cX11_heightOf 120 = .ok (.istore_n 2, 1) := by decide +kernel
theorem dX11_heightOf_121 : decode cX11_heightOf 121 = .ok (.iload_n 3, 1) := by decide +kernel
theorem dX11_heightOf_122 : decode cX11_heightOf 122 = .ok (.aload_n 0, 1) := by decide +kernel
theorem dX11_heightOf_123 : decode cX11_heightOf 123 = .ok (.getfield 31, 3) := by decide +kernel
theorem dX11_heightOf_126 : decode cX11_heightOf 126 = .ok (.iload 5, 2) := by decide +kernel
theorem dX11_heightOf_128 : decode cX11_heightOf 128 = .ok (.iaload, 1) := by decide +kernel
theorem dX11_heightOf_129 : decode cX11_heightOf 129 = .ok (.iload_n 2, 1) := by decide +kernel
theorem dX11_heightOf_130 : decode cX11_heightOf 130 = .ok (.if_icmp .ne 12, 3) := by decide +kernel
theorem dX11_heightOf_133 : decode cX11_heightOf 133 = .ok (.aload_n 0, 1) := by decide +kernel
theorem dX11_heightOf_134 : decode cX11_heightOf 134 = .ok (.iload 5, 2) := by decide +kernel
theorem dX11_heightOf_136 : decode cX11_heightOf 136 = .ok (.invokevirtual 127, 3) := by decide +kernel
theorem dX11_heightOf_139 : decode cX11_heightOf 139 = .ok (.goto 4, 3) := by decide +kernel
theorem dX11_heightOf_142 : decode cX11_heightOf 142 = .ok (.iconst 0, 1) := by decide +kernel
theorem dX11_heightOf_143 : decode cX11_heightOf 143 = .ok (.iadd, 1) := by decide +kernel
theorem dX11_heightOf_144 : decode cX11_heightOf 144 = .ok (.istore_n 3, 1) := by decide +kernel
theorem dX11_heightOf_145 : decode cX11_heightOf 145 = .ok (.iload 4, 2) := by decide +kernel
theorem dX11_heightOf_147 : decode cX11_heightOf 147 = .ok (.aload_n 0, 1) := by decide +kernel
theorem dX11_heightOf_148 : decode cX11_heightOf 148 = .ok (.getfield 31, 3) := by decide +kernel
theorem dX11_heightOf_151 : decode cX11_heightOf 151 = .ok (.iload 5, 2) := by decide +kernel
theorem dX11_heightOf_153 : decode cX11_heightOf 153 = .ok (.iaload, 1) := by decide +kernel
theorem dX11_heightOf_154 : decode cX11_heightOf 154 = .ok (.iload_n 2, 1) := by decide +kernel
theorem dX11_heightOf_155 : decode cX11_heightOf 155 = .ok (.if_icmp .ne 7, 3) := by decide +kernel
theorem dX11_heightOf_158 : decode cX11_heightOf 158 = .ok (.iconst 1, 1) := by decide +kernel
theorem dX11_heightOf_159 : decode cX11_heightOf 159 = .ok (.goto 4, 3) := by decide +kernel
theorem dX11_heightOf_162 : decode cX11_heightOf 162 = .ok (.iconst 0, 1) := by decide +kernel
theorem dX11_heightOf_163 : decode cX11_heightOf 163 = .ok (.iadd, 1) := by decide +kernel
theorem dX11_heightOf_164 : decode cX11_heightOf 164 = .ok (.istore 4, 2) := by decide +kernel
theorem dX11_heightOf_166 : decode cX11_heightOf 166 = .ok (.iinc 5 1, 3) := by decide +kernel
theorem dX11_heightOf_169 : decode cX11_heightOf 169 = .ok (.goto (-137), 3) := by decide +kernel
theorem dX11_heightOf_172 : decode cX11_heightOf 172 = .ok (.iload 4, 2) := by decide +kernel
theorem dX11_heightOf_174 : decode cX11_heightOf 174 = .ok (.ifCond .ne 7, 3) := by decide +kernel
theorem dX11_heightOf_177 : decode cX11_heightOf 177 = .ok (.iconst (-1), 1) := by decide +kernel
theorem dX11_heightOf_178 : decode cX11_heightOf 178 = .ok (.goto 7, 3) := by decide +kernel
theorem dX11_heightOf_181 : decode cX11_heightOf 181 = .ok (.iload_n 3, 1) := by decide +kernel
theorem dX11_heightOf_182 : decode cX11_heightOf 182 = .ok (.iload 4, 2) := by decide +kernel
theorem dX11_heightOf_184 : decode cX11_heightOf 184 = .ok (.idiv, 1) := by decide +kernel
theorem dX11_heightOf_185 : decode cX11_heightOf 185 = .ok (.ireturn, 1) := by decide +kernel
set_option maxRecDepth 20000 in
theorem ggX11_layHeights_X11_heightOf : GoodIn wsX11_layHeights wsX11_heightOf := goodIn_r _ [6, 7, 8, 9, 10, 11, 12, 5, 13, 14, 15, 16, 17, 18, 19, 20, 21, 22, 23, 24, 25, 26, 27, 28, 29, 30, 31, 32, 33, 34, 35, 36, 37, 38, 39, 40, 41, 42, 43, 44, 45, 46, 47, 48, 49, 50, 51, 52, 53, 54, 55, 56, 57, 58, 59, 60, 61] (by decide +kernel) (by decide +kernel)
set_option maxRecDepth 20000 in
theorem gX11_layHeights_X11_heightOf : GoodIn wsX11_layHeights (wsV RX11 135 RX11 yX11_heightOf wsX11_heightOf) := goodIn_app (goodIn_of _ (by decide +kernel)) ggX11_layHeights_X11_heightOf
theorem dX11_layHeights_0 : decode cX11_layHeights 0 = .ok (.iconst 0, 1) := by decide +kernel
theorem dX11_layHeights_1 : decode cX11_layHeights 1 = .ok (.istore_n 1, 1) := by decide +kernel
theorem dX11_layHeights_2 : decode cX11_layHeights 2 = .ok (.iload_n 1, 1) := by decide +kernel
theorem dX11_layHeights_3 : decode cX11_layHeights 3 = .ok (.bipush 7, 2) := by decide +kernel
theorem dX11_layHeights_5 : decode cX11_layHeights 5 = .ok (.if_icmp .ge 20, 3) := by decide +kernel
theorem dX11_layHeights_8 : decode cX11_layHeights 8 = .ok (.aload_n 0, 1) := by decide +kernel
theorem dX11_layHeights_9 : decode cX11_layHeights 9 = .ok (.getfield 28, 3) := by decide +kernel
theorem dX11_layHeights_12 : decode cX11_layHeights 12 = .ok (.iload_n 1, 1) := by decide +kernel
theorem dX11_layHeights_13 : decode cX11_layHeights 13 = .ok (.aload_n 0, 1) := by decide +kernel
theorem dX11_layHeights_14 : decode cX11_layHeights 14 = .ok (.iload_n 1, 1) := by decide +kernel
theorem dX11_layHeights_15 : decode cX11_layHeights 15 = .ok (.invokevirtual 135, 3) := by decide +kernel
theorem dX11_layHeights_18 : decode cX11_layHeights 18 = .ok (.iastore, 1) := by decide +kernel
theorem dX11_layHeights_19 : decode cX11_layHeights 19 = .ok (.iinc 1 1, 3) := by decide +kernel
theorem dX11_layHeights_22 : decode cX11_layHeights 22 = .ok (.goto (-20), 3) := by decide +kernel
theorem dX11_layHeights_25 : decode cX11_layHeights 25 = .ok (.return_, 1) := by decide +kernel
set_option maxRecDepth 20000 in
theorem ggX11_into_X11_isOpen : GoodIn wsX11_into wsX11_isOpen := goodIn_r _ [7, 8, 9, 10, 11, 12, 13, 14, 15, 16, 17, 18, 19, 20, 21, 22, 23, 24, 25, 26, 27, 28, 29, 30, 31, 32, 33, 34, 35, 36, 37, 38, 39, 40, 41, 42, 43, 44] (by decide +kernel) (by decide +kernel)
set_option maxRecDepth 20000 in
theorem gX11_into_X11_isOpen : GoodIn wsX11_into (wsV RX11 124 RX11 yX11_isOpen wsX11_isOpen) := goodIn_app (goodIn_of _ (by decide +kernel)) ggX11_into_X11_isOpen
theorem dX11_into_0 : decode cX11_into 0 = .ok (.aload_n 0, 1) := by decide +kernel
theorem dX11_into_1 : decode cX11_into 1 = .ok (.getfield 19, 3) := by decide +kernel
theorem dX11_into_4 : decode cX11_into 4 = .ok (.iconst 4, 1) := by decide +kernel
theorem dX11_into_5 : decode cX11_into 5 = .ok (.iload_n 1, 1) := by decide +kernel
theorem dX11_into_6 : decode cX11_into 6 = .ok (.imul, 1) := by decide +kernel
theorem dX11_into_7 : decode cX11_into 7 = .ok (.iaload, 1) := by decide +kernel
theorem dX11_into_8 : decode cX11_into 8 = .ok (.istore_n 2, 1) := by decide +kernel
theorem dX11_into_9 : decode cX11_into 9 = .ok (.aload_n 0, 1) := by decide +kernel
theorem dX11_into_10 : decode cX11_into 10 = .ok (.getfield 19, 3) := by decide +kernel
theorem dX11_into_13 : decode cX11_into 13 = .ok (.iconst 4, 1) := by decide +kernel
theorem dX11_into_14 : decode cX11_into 14 = .ok (.iload_n 1, 1) := by decide +kernel
theorem dX11_into_15 : decode cX11_into 15 = .ok (.imul, 1) := by decide +kernel
theorem dX11_into_16 : decode cX11_into 16 = .ok (.iconst 1, 1) := by decide +kernel
theorem dX11_into_17 : decode cX11_into 17 = .ok (.iadd, 1) := by decide +kernel
theorem dX11_into_18 : decode cX11_into 18 = .ok (.iaload, 1) := by decide +kernel
theorem dX11_into_19 : decode cX11_into 19 = .ok (.istore_n 3, 1) := by decide +kernel
theorem dX11_into_20 : decode cX11_into 20 = .ok (.aload_n 0, 1) := by decide +kernel
theorem dX11_into_21 : decode cX11_into 21 = .ok (.iload_n 1, 1) := by decide +kernel
theorem dX11_into_22 : decode cX11_into 22 = .ok (.invokevirtual 124, 3) := by decide +kernel
theorem dX11_into_25 : decode cX11_into 25 = .ok (.ifCond .eq 38, 3) := by decide +kernel
theorem dX11_into_28 : decode cX11_into 28 = .ok (.aload_n 0, 1) := by decide +kernel
theorem dX11_into_29 : decode cX11_into 29 = .ok (.getfield 28, 3) := by decide +kernel
theorem dX11_into_32 : decode cX11_into 32 = .ok (.iload_n 2, 1) := by decide +kernel
theorem dX11_into_33 : decode cX11_into 33 = .ok (.iaload, 1) := by decide +kernel
theorem dX11_into_34 : decode cX11_into 34 = .ok (.iconst (-1), 1) := by decide +kernel
theorem dX11_into_35 : decode cX11_into 35 = .ok (.if_icmp .eq 28, 3) := by decide +kernel
theorem dX11_into_38 : decode cX11_into 38 = .ok (.aload_n 0, 1) := by decide +kernel
theorem dX11_into_39 : decode cX11_into 39 = .ok (.getfield 28, 3) := by decide +kernel
theorem dX11_into_42 : decode cX11_into 42 = .ok (.iload_n 3, 1) := by decide +kernel
theorem dX11_into_43 : decode cX11_into 43 = .ok (.iaload, 1) := by decide +kernel
theorem dX11_into_44 : decode cX11_into 44 = .ok (.iconst (-1), 1) := by decide +kernel
theorem dX11_into_45 : decode cX11_into 45 = .ok (.if_icmp .eq 18, 3) := by decide +kernel
theorem dX11_into_48 : decode cX11_into 48 = .ok (.aload_n 0, 1) := by decide +kernel
theorem dX11_into_49 : decode cX11_into 49 = .ok (.getfield 28, 3) := by decide +kernel
theorem dX11_into_52 : decode cX11_into 52 = .ok (.iload_n 2, 1) := by decide +kernel
theorem dX11_into_53 : decode cX11_into 53 = .ok (.iaload, 1) := by decide +kernel
theorem dX11_into_54 : decode cX11_into 54 = .ok (.aload_n 0, 1) := by decide +kernel
theorem dX11_into_55 : decode cX11_into 55 = .ok (.getfield 28, 3) := by decide +kernel
theorem dX11_into_58 : decode cX11_into 58 = .ok (.iload_n 3, 1) := by decide +kernel
theorem dX11_into_59 : decode cX11_into 59 = .ok (.iaload, 1) := by decide +kernel
theorem dX11_into_60 : decode cX11_into 60 = .ok (.if_icmp .ne 5, 3) := by decide +kernel
theorem dX11_into_63 : decode cX11_into 63 = .ok (.iconst (-1), 1) := by decide +kernel
theorem dX11_into_64 : decode cX11_into 64 = .ok (.ireturn, 1) := by decide +kernel
theorem dX11_into_65 : decode cX11_into 65 = .ok (.aload_n 0, 1) := by decide +kernel
theorem dX11_into_66 : decode cX11_into 66 = .ok (.getfield 28, 3) := by decide +kernel
theorem dX11_into_69 : decode cX11_into 69 = .ok (.iload_n 2, 1) := by decide +kernel
theorem dX11_into_70 : decode cX11_into 70 = .ok (.iaload, 1) := by decide +kernel
theorem dX11_into_71 : decode cX11_into 71 = .ok (.aload_n 0, 1) := by decide +kernel
theorem dX11_into_72 : decode cX11_into 72 = .ok (.getfield 28, 3) := by decide +kernel
theorem dX11_into_75 : decode cX11_into 75 = .ok (.iload_n 3, 1) := by decide +kernel
theorem dX11_into_76 : decode cX11_into 76 = .ok (.iaload, 1) := by decide +kernel
theorem dX11_into_77 : decode cX11_into 77 = .ok (.if_icmp .le 7, 3) := by decide +kernel
theorem dX11_into_80 : decode cX11_into 80 = .ok (.iload_n 3, 1) := by decide +kernel
theorem dX11_into_81 : decode cX11_into 81 = .ok (.goto 4, 3) := by decide +kernel
theorem dX11_into_84 : decode cX11_into 84 = .ok (.iload_n 2, 1) := by decide +kernel
theorem dX11_into_85 : decode cX11_into 85 = .ok (.ireturn, 1) := by decide +kernel
set_option maxRecDepth 20000 in
theorem ggX11_breathes_X11_otherEnd : GoodIn wsX11_breathes wsX11_otherEnd := goodIn_r _ [6, 7, 18, 19, 20, 21, 22, 23, 24, 25, 26, 27, 28, 29, 30, 31, 32, 33, 34, 35, 36, 37, 38, 39, 40, 41, 42, 43, 44, 45, 46, 47, 48, 49, 50, 51, 52, 53] (by decide +kernel) (by decide +kernel)
set_option maxRecDepth 20000 in
theorem gX11_breathes_X11_otherEnd : GoodIn wsX11_breathes (wsV RX11 138 RX11 yX11_otherEnd wsX11_otherEnd) := goodIn_app (goodIn_of _ (by decide +kernel)) ggX11_breathes_X11_otherEnd
set_option maxRecDepth 20000 in
theorem ggX11_breathes_X11_into : GoodIn wsX11_breathes wsX11_into := goodIn_r _ [11, 7, 12, 13, 14, 15, 5, 16, 17, 18, 19, 20, 21, 22, 23, 24, 25, 26, 27, 28, 29, 30, 31, 32, 33, 34, 35, 36, 37, 38, 39, 40, 41, 42, 43, 44, 45, 46, 47, 48, 49, 50, 51, 52, 53] (by decide +kernel) (by decide +kernel)
set_option maxRecDepth 20000 in
theorem gX11_breathes_X11_into : GoodIn wsX11_breathes (wsV RX11 142 RX11 yX11_into wsX11_into) := goodIn_app (goodIn_of _ (by decide +kernel)) ggX11_breathes_X11_into
theorem dX11_breathes_0 : decode cX11_breathes 0 = .ok (.iconst 0, 1) := by decide +kernel
theorem dX11_breathes_1 : decode cX11_breathes 1 = .ok (.istore_n 2, 1) := by decide +kernel
theorem dX11_breathes_2 : decode cX11_breathes 2 = .ok (.iconst 0, 1) := by decide +kernel
theorem dX11_breathes_3 : decode cX11_breathes 3 = .ok (.istore_n 3, 1) := by decide +kernel
theorem dX11_breathes_4 : decode cX11_breathes 4 = .ok (.iload_n 3, 1) := by decide +kernel
theorem dX11_breathes_5 : decode cX11_breathes 5 = .ok (.aload_n 0, 1) := by decide +kernel
theorem dX11_breathes_6 : decode cX11_breathes 6 = .ok (.getfield 101, 3) := by decide +kernel
theorem dX11_breathes_9 : decode cX11_breathes 9 = .ok (.if_icmp .ge 38, 3) := by decide +kernel
theorem dX11_breathes_12 : decode cX11_breathes 12 = .ok (.iload_n 2, 1) := by decide +kernel
theorem dX11_breathes_13 : decode cX11_breathes 13 = .ok (.ifCond .ne 22, 3) := by decide +kernel
theorem dX11_breathes_16 : decode cX11_breathes 16 = .ok (.aload_n 0, 1) := by decide +kernel
theorem dX11_breathes_17 : decode cX11_breathes 17 = .ok (.iload_n 3, 1) := by decide +kernel
theorem dX11_breathes_18 : decode cX11_breathes 18 = .ok (.iload_n 1, 1) := by decide +kernel
theorem dX11_breathes_19 : decode cX11_breathes 19 = .ok (.invokevirtual 138, 3) := by decide +kernel
theorem dX11_breathes_22 : decode cX11_breathes 22 = .ok (.iconst (-1), 1) := by decide +kernel
theorem dX11_breathes_23 : decode cX11_breathes 23 = .ok (.if_icmp .eq 16, 3) := by decide +kernel
theorem dX11_breathes_26 : decode cX11_breathes 26 = .ok (.aload_n 0, 1) := by decide +kernel
theorem dX11_breathes_27 : decode cX11_breathes 27 = .ok (.iload_n 3, 1) := by decide +kernel
theorem dX11_breathes_28 : decode cX11_breathes 28 = .ok (.invokevirtual 142, 3) := by decide +kernel
theorem dX11_breathes_31 : decode cX11_breathes 31 = .ok (.iconst (-1), 1) := by decide +kernel
theorem dX11_breathes_32 : decode cX11_breathes 32 = .ok (.if_icmp .eq 7, 3) := by decide +kernel
theorem dX11_breathes_35 : decode cX11_breathes 35 = .ok (.iconst 1, 1) := by decide +kernel
theorem dX11_breathes_36 : decode cX11_breathes 36 = .ok (.goto 4, 3) := by decide +kernel
theorem dX11_breathes_39 : decode cX11_breathes 39 = .ok (.iconst 0, 1) := by decide +kernel
theorem dX11_breathes_40 : decode cX11_breathes 40 = .ok (.istore_n 2, 1) := by decide +kernel
theorem dX11_breathes_41 : decode cX11_breathes 41 = .ok (.iinc 3 1, 3) := by decide +kernel
theorem dX11_breathes_44 : decode cX11_breathes 44 = .ok (.goto (-40), 3) := by decide +kernel
theorem dX11_breathes_47 : decode cX11_breathes 47 = .ok (.iload_n 2, 1) := by decide +kernel
theorem dX11_breathes_48 : decode cX11_breathes 48 = .ok (.ireturn, 1) := by decide +kernel
set_option maxRecDepth 20000 in
theorem ggX11_tellGallery_X11_isOpen : GoodIn wsX11_tellGallery wsX11_isOpen := goodIn_r _ [6, 7, 34, 35, 36, 37, 38, 39, 40, 41, 42, 43, 44, 45, 46, 47, 48, 49, 50, 51, 52, 53, 54, 55, 56, 57, 58, 59, 60, 61, 62, 63, 64, 65, 66, 67, 68, 69] (by decide +kernel) (by decide +kernel)
set_option maxRecDepth 20000 in
theorem gX11_tellGallery_X11_isOpen : GoodIn wsX11_tellGallery (wsV RX11 124 RX11 yX11_isOpen wsX11_isOpen) := goodIn_app (goodIn_of _ (by decide +kernel)) ggX11_tellGallery_X11_isOpen
set_option maxRecDepth 20000 in
theorem ggX11_tellGallery_X11_layHeights : GoodIn wsX11_tellGallery wsX11_layHeights := goodIn_r _ [11, 12, 13, 14, 15, 5, 16, 17, 18, 19, 20, 21, 22, 23, 24, 25, 26, 27, 28, 29, 1, 2, 3, 4, 6, 7, 34, 35, 36, 37, 38, 39, 40, 41, 42, 43, 44, 45, 46, 47, 48, 49, 50, 51, 52, 53, 54, 55, 56, 57, 58, 59, 60, 61, 62, 63, 64, 65, 66, 67, 68, 69] (by decide +kernel) (by decide +kernel)
set_option maxRecDepth 20000 in
theorem gX11_tellGallery_X11_layHeights : GoodIn wsX11_tellGallery (wsV RX11 145 RX11 yX11_layHeights wsX11_layHeights) := goodIn_app (goodIn_of _ (by decide +kernel)) ggX11_tellGallery_X11_layHeights
set_option maxRecDepth 20000 in
theorem ggX11_tellGallery_X11_into : GoodIn wsX11_tellGallery wsX11_into := goodIn_r _ [33, 1, 12, 2, 3, 4, 5, 6, 7, 34, 35, 36, 37, 38, 39, 40, 41, 42, 43, 44, 45, 46, 47, 48, 49, 50, 51, 52, 53, 54, 55, 56, 57, 58, 59, 60, 61, 62, 63, 64, 65, 66, 67, 68, 69] (by decide +kernel) (by decide +kernel)
set_option maxRecDepth 20000 in
theorem gX11_tellGallery_X11_into : GoodIn wsX11_tellGallery (wsV RX11 142 RX11 yX11_into wsX11_into) := goodIn_app (goodIn_of _ (by decide +kernel)) ggX11_tellGallery_X11_into
theorem dX11_tellGallery_0 : decode cX11_tellGallery 0 = .ok (.iload_n 2, 1) := by decide +kernel
theorem dX11_tellGallery_1 : decode cX11_tellGallery 1 = .ok (.tableswitch 74 0 5 #[39, 39, 39, 39, 50, 64], 39) := by decide +kernel
theorem dX11_tellGallery_40 : decode cX11_tellGallery 40 = .ok (.aload_n 0, 1) := by decide +kernel
theorem dX11_tellGallery_41 : decode cX11_tellGallery 41 = .ok (.getfield 19, 3) := by decide +kernel
theorem dX11_tellGallery_44 : decode cX11_tellGallery 44 = .ok (.iconst 4, 1) := by decide +kernel
theorem dX11_tellGallery_45 : decode cX11_tellGallery 45 = .ok (.iload_n 1, 1) := by decide +kernel
theorem dX11_tellGallery_46 : decode cX11_tellGallery 46 = .ok (.imul, 1) := by decide +kernel
theorem dX11_tellGallery_47 : decode cX11_tellGallery 47 = .ok (.iload_n 2, 1) := by decide +kernel
theorem dX11_tellGallery_48 : decode cX11_tellGallery 48 = .ok (.iadd, 1) := by decide +kernel
theorem dX11_tellGallery_49 : decode cX11_tellGallery 49 = .ok (.iaload, 1) := by decide +kernel
theorem dX11_tellGallery_50 : decode cX11_tellGallery 50 = .ok (.ireturn, 1) := by decide +kernel
theorem dX11_tellGallery_51 : decode cX11_tellGallery 51 = .ok (.aload_n 0, 1) := by decide +kernel
theorem dX11_tellGallery_52 : decode cX11_tellGallery 52 = .ok (.iload_n 1, 1) := by decide +kernel
theorem dX11_tellGallery_53 : decode cX11_tellGallery 53 = .ok (.invokevirtual 124, 3) := by decide +kernel
theorem dX11_tellGallery_56 : decode cX11_tellGallery 56 = .ok (.ifCond .eq 7, 3) := by decide +kernel
theorem dX11_tellGallery_59 : decode cX11_tellGallery 59 = .ok (.iconst 1, 1) := by decide +kernel
theorem dX11_tellGallery_60 : decode cX11_tellGallery 60 = .ok (.goto 4, 3) := by decide +kernel
theorem dX11_tellGallery_63 : decode cX11_tellGallery 63 = .ok (.iconst 0, 1) := by decide +kernel
theorem dX11_tellGallery_64 : decode cX11_tellGallery 64 = .ok (.ireturn, 1) := by decide +kernel
theorem dX11_tellGallery_65 : decode cX11_tellGallery 65 = .ok (.aload_n 0, 1) := by decide +kernel
theorem dX11_tellGallery_66 : decode cX11_tellGallery 66 = .ok (.invokevirtual 145, 3) := by decide +kernel
theorem dX11_tellGallery_69 : decode cX11_tellGallery 69 = .ok (.aload_n 0, 1) := by decide +kernel
theorem dX11_tellGallery_70 : decode cX11_tellGallery 70 = .ok (.iload_n 1, 1) := by decide +kernel
theorem dX11_tellGallery_71 : decode cX11_tellGallery 71 = .ok (.invokevirtual 142, 3) := by decide +kernel
theorem dX11_tellGallery_74 : decode cX11_tellGallery 74 = .ok (.ireturn, 1) := by decide +kernel
theorem dX11_tellGallery_75 : decode cX11_tellGallery 75 = .ok (.bipush (-102), 2) := by decide +kernel
theorem dX11_tellGallery_77 : decode cX11_tellGallery 77 = .ok (.ireturn, 1) := by decide +kernel
set_option maxRecDepth 20000 in
theorem ggX11_gallery_X11_isGallery : GoodIn wsX11_gallery wsX11_isGallery := goodIn_r _ [5, 6, 7, 8, 4, 9, 45, 46, 47, 48, 49, 50, 51, 52, 53, 54, 55, 56, 57, 58, 59, 60, 61, 62, 63, 64, 65, 66, 67, 68, 69, 70, 71, 72, 73, 74, 75, 76, 77, 78, 79, 80] (by decide +kernel) (by decide +kernel)
set_option maxRecDepth 20000 in
theorem gX11_gallery_X11_isGallery : GoodIn wsX11_gallery (wsV RX11 148 RX11 yX11_isGallery wsX11_isGallery) := goodIn_app (goodIn_of _ (by decide +kernel)) ggX11_gallery_X11_isGallery
set_option maxRecDepth 20000 in
theorem ggX11_gallery_X11_tellGallery : GoodIn wsX11_gallery wsX11_tellGallery := goodIn_r _ [13, 14, 15, 16, 17, 4, 18, 19, 20, 21, 22, 23, 24, 25, 26, 27, 28, 29, 30, 31, 32, 33, 34, 35, 36, 37, 38, 39, 40, 6, 41, 42, 43, 44, 45, 46, 47, 48, 49, 50, 51, 52, 53, 54, 55, 56, 57, 58, 59, 60, 61, 62, 63, 64, 65, 66, 67, 68, 69, 70, 71, 72, 73, 74, 75, 76, 77, 78, 79, 80] (by decide +kernel) (by decide +kernel)
set_option maxRecDepth 20000 in
theorem gX11_gallery_X11_tellGallery : GoodIn wsX11_gallery (wsV RX11 151 RX11 yX11_tellGallery wsX11_tellGallery) := goodIn_app (goodIn_of _ (by decide +kernel)) ggX11_gallery_X11_tellGallery
theorem dX11_gallery_0 : decode cX11_gallery 0 = .ok (.aload_n 0, 1) := by decide +kernel
theorem dX11_gallery_1 : decode cX11_gallery 1 = .ok (.iload_n 1, 1) := by decide +kernel
theorem dX11_gallery_2 : decode cX11_gallery 2 = .ok (.invokevirtual 148, 3) := by decide +kernel
theorem dX11_gallery_5 : decode cX11_gallery 5 = .ok (.ifCond .eq 12, 3) := by decide +kernel
theorem dX11_gallery_8 : decode cX11_gallery 8 = .ok (.aload_n 0, 1) := by decide +kernel
theorem dX11_gallery_9 : decode cX11_gallery 9 = .ok (.iload_n 1, 1) := by decide +kernel
theorem dX11_gallery_10 : decode cX11_gallery 10 = .ok (.iload_n 2, 1) := by decide +kernel
theorem dX11_gallery_11 : decode cX11_gallery 11 = .ok (.invokevirtual 151, 3) := by decide +kernel
theorem dX11_gallery_14 : decode cX11_gallery 14 = .ok (.goto 5, 3) := by decide +kernel
theorem dX11_gallery_17 : decode cX11_gallery 17 = .ok (.bipush (-101), 2) := by decide +kernel
theorem dX11_gallery_19 : decode cX11_gallery 19 = .ok (.ireturn, 1) := by decide +kernel
set_option maxRecDepth 20000 in
theorem ggX11_tellKnot_X11_layHeights : GoodIn wsX11_tellKnot wsX11_layHeights := goodIn_r _ [8, 2, 9, 10, 11, 7, 12, 1, 13, 14, 15, 16, 17, 18, 19, 20, 21, 22, 23, 24, 25, 26, 27, 28, 29, 30, 43, 44, 45, 46, 47, 48, 49, 50, 51, 52, 53, 54, 55, 56, 57, 58, 59, 60, 61, 62, 63, 64, 65, 66, 67, 68, 69, 70, 71, 72, 73, 74, 75, 76, 77, 78] (by decide +kernel) (by decide +kernel)
set_option maxRecDepth 20000 in
theorem gX11_tellKnot_X11_layHeights : GoodIn wsX11_tellKnot (wsV RX11 145 RX11 yX11_layHeights wsX11_layHeights) := goodIn_app (goodIn_of _ (by decide +kernel)) ggX11_tellKnot_X11_layHeights
set_option maxRecDepth 20000 in
theorem ggX11_tellKnot_X11_breathes : GoodIn wsX11_tellKnot wsX11_breathes := goodIn_r _ [34, 24, 35, 36, 37, 7, 38, 25, 39, 40, 41, 42, 2, 26, 27, 28, 29, 30, 43, 44, 45, 46, 47, 48, 49, 50, 51, 52, 53, 54, 55, 56, 57, 58, 59, 60, 61, 62, 63, 64, 65, 66, 67, 68, 69, 70, 71, 72, 73, 74, 75, 76, 77, 78] (by decide +kernel) (by decide +kernel)
set_option maxRecDepth 20000 in
theorem gX11_tellKnot_X11_breathes : GoodIn wsX11_tellKnot (wsV RX11 154 RX11 yX11_breathes wsX11_breathes) := goodIn_app (goodIn_of _ (by decide +kernel)) ggX11_tellKnot_X11_breathes
theorem dX11_tellKnot_0 : decode cX11_tellKnot 0 = .ok (.aload_n 0, 1) := by decide +kernel
theorem dX11_tellKnot_1 : decode cX11_tellKnot 1 = .ok (.invokevirtual 145, 3) := by decide +kernel
theorem dX11_tellKnot_4 : decode cX11_tellKnot 4 = .ok (.iload_n 2, 1) := by decide +kernel
theorem dX11_tellKnot_5 : decode cX11_tellKnot 5 = .ok (.ifCond .ne 12, 3) := by decide +kernel
theorem dX11_tellKnot_8 : decode cX11_tellKnot 8 = .ok (.aload_n 0, 1) := by decide +kernel
theorem dX11_tellKnot_9 : decode cX11_tellKnot 9 = .ok (.getfield 22, 3) := by decide +kernel
theorem dX11_tellKnot_12 : decode cX11_tellKnot 12 = .ok (.iload_n 1, 1) := by decide +kernel
theorem dX11_tellKnot_13 : decode cX11_tellKnot 13 = .ok (.iaload, 1) := by decide +kernel
theorem dX11_tellKnot_14 : decode cX11_tellKnot 14 = .ok (.goto 54, 3) := by decide +kernel
theorem dX11_tellKnot_17 : decode cX11_tellKnot 17 = .ok (.iload_n 2, 1) := by decide +kernel
theorem dX11_tellKnot_18 : decode cX11_tellKnot 18 = .ok (.iconst 1, 1) := by decide +kernel
theorem dX11_tellKnot_19 : decode cX11_tellKnot 19 = .ok (.if_icmp .ne 12, 3) := by decide +kernel
theorem dX11_tellKnot_22 : decode cX11_tellKnot 22 = .ok (.aload_n 0, 1) := by decide +kernel
theorem dX11_tellKnot_23 : decode cX11_tellKnot 23 = .ok (.getfield 28, 3) := by decide +kernel
theorem dX11_tellKnot_26 : decode cX11_tellKnot 26 = .ok (.iload_n 1, 1) := by decide +kernel
theorem dX11_tellKnot_27 : decode cX11_tellKnot 27 = .ok (.iaload, 1) := by decide +kernel
theorem dX11_tellKnot_28 : decode cX11_tellKnot 28 = .ok (.goto 40, 3) := by decide +kernel
theorem dX11_tellKnot_31 : decode cX11_tellKnot 31 = .ok (.iload_n 2, 1) := by decide +kernel
theorem dX11_tellKnot_32 : decode cX11_tellKnot 32 = .ok (.iconst 2, 1) := by decide +kernel
theorem dX11_tellKnot_33 : decode cX11_tellKnot 33 = .ok (.if_icmp .ne 19, 3) := by decide +kernel
theorem dX11_tellKnot_36 : decode cX11_tellKnot 36 = .ok (.aload_n 0, 1) := by decide +kernel
theorem dX11_tellKnot_37 : decode cX11_tellKnot 37 = .ok (.iload_n 1, 1) := by decide +kernel
theorem dX11_tellKnot_38 : decode cX11_tellKnot 38 = .ok (.invokevirtual 154, 3) := by decide +kernel
theorem dX11_tellKnot_41 : decode cX11_tellKnot 41 = .ok (.ifCond .eq 7, 3) := by decide +kernel
theorem dX11_tellKnot_44 : decode cX11_tellKnot 44 = .ok (.iconst 1, 1) := by decide +kernel
theorem dX11_tellKnot_45 : decode cX11_tellKnot 45 = .ok (.goto 23, 3) := by decide +kernel
theorem dX11_tellKnot_48 : decode cX11_tellKnot 48 = .ok (.iconst 0, 1) := by decide +kernel
theorem dX11_tellKnot_49 : decode cX11_tellKnot 49 = .ok (.goto 19, 3) := by decide +kernel
theorem dX11_tellKnot_52 : decode cX11_tellKnot 52 = .ok (.iload_n 2, 1) := by decide +kernel
theorem dX11_tellKnot_53 : decode cX11_tellKnot 53 = .ok (.iconst 3, 1) := by decide +kernel
theorem dX11_tellKnot_54 : decode cX11_tellKnot 54 = .ok (.if_icmp .ne 12, 3) := by decide +kernel
theorem dX11_tellKnot_57 : decode cX11_tellKnot 57 = .ok (.aload_n 0, 1) := by decide +kernel
theorem dX11_tellKnot_58 : decode cX11_tellKnot 58 = .ok (.getfield 25, 3) := by decide +kernel
theorem dX11_tellKnot_61 : decode cX11_tellKnot 61 = .ok (.iload_n 1, 1) := by decide +kernel
theorem dX11_tellKnot_62 : decode cX11_tellKnot 62 = .ok (.iaload, 1) := by decide +kernel
theorem dX11_tellKnot_63 : decode cX11_tellKnot 63 = .ok (.goto 5, 3) := by decide +kernel
theorem dX11_tellKnot_66 : decode cX11_tellKnot 66 = .ok (.bipush (-102), 2) := by decide +kernel
theorem dX11_tellKnot_68 : decode cX11_tellKnot 68 = .ok (.ireturn, 1) := by decide +kernel
set_option maxRecDepth 20000 in
theorem ggX11_knot_X11_isKnot : GoodIn wsX11_knot wsX11_isKnot := goodIn_r _ [5, 6, 7, 8, 9, 4, 10, 11, 12, 13, 14, 59, 60, 61, 62, 63, 64, 65, 66, 67, 68, 69, 70, 71, 72, 73, 74, 75, 76, 77, 78, 79, 80, 81, 82, 83, 84, 85, 86, 87, 88, 89, 90, 91, 92, 93, 94] (by decide +kernel) (by decide +kernel)
set_option maxRecDepth 20000 in
theorem gX11_knot_X11_isKnot : GoodIn wsX11_knot (wsV RX11 157 RX11 yX11_isKnot wsX11_isKnot) := goodIn_app (goodIn_of _ (by decide +kernel)) ggX11_knot_X11_isKnot
set_option maxRecDepth 20000 in
theorem ggX11_knot_X11_tellKnot : GoodIn wsX11_knot wsX11_tellKnot := goodIn_r _ [18, 19, 20, 21, 22, 23, 24, 4, 25, 26, 27, 28, 29, 30, 31, 32, 33, 34, 35, 36, 37, 38, 39, 40, 11, 41, 42, 43, 44, 45, 46, 47, 48, 49, 50, 51, 52, 53, 54, 55, 56, 57, 58, 59, 60, 61, 62, 63, 64, 65, 66, 67, 68, 69, 70, 71, 72, 73, 74, 75, 76, 77, 78, 79, 80, 81, 82, 83, 84, 85, 86, 87, 88, 89, 90, 91, 92, 93, 94] (by decide +kernel) (by decide +kernel)
set_option maxRecDepth 20000 in
theorem gX11_knot_X11_tellKnot : GoodIn wsX11_knot (wsV RX11 160 RX11 yX11_tellKnot wsX11_tellKnot) := goodIn_app (goodIn_of _ (by decide +kernel)) ggX11_knot_X11_tellKnot
theorem dX11_knot_0 : decode cX11_knot 0 = .ok (.aload_n 0, 1) := by decide +kernel
theorem dX11_knot_1 : decode cX11_knot 1 = .ok (.iload_n 1, 1) := by decide +kernel
theorem dX11_knot_2 : decode cX11_knot 2 = .ok (.invokevirtual 157, 3) := by decide +kernel
theorem dX11_knot_5 : decode cX11_knot 5 = .ok (.ifCond .eq 12, 3) := by decide +kernel
theorem dX11_knot_8 : decode cX11_knot 8 = .ok (.aload_n 0, 1) := by decide +kernel
theorem dX11_knot_9 : decode cX11_knot 9 = .ok (.iload_n 1, 1) := by decide +kernel
theorem dX11_knot_10 : decode cX11_knot 10 = .ok (.iload_n 2, 1) := by decide +kernel
theorem dX11_knot_11 : decode cX11_knot 11 = .ok (.invokevirtual 160, 3) := by decide +kernel
theorem dX11_knot_14 : decode cX11_knot 14 = .ok (.goto 5, 3) := by decide +kernel
theorem dX11_knot_17 : decode cX11_knot 17 = .ok (.bipush (-101), 2) := by decide +kernel
theorem dX11_knot_19 : decode cX11_knot 19 = .ok (.ireturn, 1) := by decide +kernel
set_option maxRecDepth 20000 in
theorem ggX11_door_X11_isGallery : GoodIn wsX11_door wsX11_isGallery := goodIn_r _ [7, 8, 9, 10, 6, 11, 16, 17, 18, 19, 20, 21, 22, 23, 24, 25, 26, 27, 28, 29, 30, 31, 32, 33, 34, 35, 36, 37, 38, 39, 40, 41, 42, 43, 44, 45, 46, 47, 48, 49, 50, 51] (by decide +kernel) (by decide +kernel)
set_option maxRecDepth 20000 in
theorem gX11_door_X11_isGallery : GoodIn wsX11_door (wsV RX11 148 RX11 yX11_isGallery wsX11_isGallery) := goodIn_app (goodIn_of _ (by decide +kernel)) ggX11_door_X11_isGallery
set_option maxRecDepth 20000 in
theorem ggX11_door_X11_isOpen : GoodIn wsX11_door wsX11_isOpen := goodIn_r _ [15, 2, 16, 17, 18, 19, 20, 21, 22, 23, 24, 25, 26, 27, 28, 29, 30, 31, 32, 33, 34, 35, 36, 37, 38, 39, 40, 41, 42, 43, 44, 45, 46, 47, 48, 49, 50, 51] (by decide +kernel) (by decide +kernel)
set_option maxRecDepth 20000 in
theorem gX11_door_X11_isOpen : GoodIn wsX11_door (wsV RX11 124 RX11 yX11_isOpen wsX11_isOpen) := goodIn_app (goodIn_of _ (by decide +kernel)) ggX11_door_X11_isOpen
theorem dX11_door_0 : decode cX11_door 0 = .ok (.aload_n 0, 1) := by decide +kernel
theorem dX11_door_1 : decode cX11_door 1 = .ok (.iload_n 1, 1) := by decide +kernel
theorem dX11_door_2 : decode cX11_door 2 = .ok (.invokevirtual 148, 3) := by decide +kernel
theorem dX11_door_5 : decode cX11_door 5 = .ok (.ifCond .ne 6, 3) := by decide +kernel
theorem dX11_door_8 : decode cX11_door 8 = .ok (.bipush (-101), 2) := by decide +kernel
theorem dX11_door_10 : decode cX11_door 10 = .ok (.ireturn, 1) := by decide +kernel
theorem dX11_door_11 : decode cX11_door 11 = .ok (.aload_n 0, 1) := by decide +kernel
theorem dX11_door_12 : decode cX11_door 12 = .ok (.getfield 19, 3) := by decide +kernel
theorem dX11_door_15 : decode cX11_door 15 = .ok (.iconst 4, 1) := by decide +kernel
theorem dX11_door_16 : decode cX11_door 16 = .ok (.iload_n 1, 1) := by decide +kernel
theorem dX11_door_17 : decode cX11_door 17 = .ok (.imul, 1) := by decide +kernel
theorem dX11_door_18 : decode cX11_door 18 = .ok (.iconst 3, 1) := by decide +kernel
theorem dX11_door_19 : decode cX11_door 19 = .ok (.iadd, 1) := by decide +kernel
theorem dX11_door_20 : decode cX11_door 20 = .ok (.iaload, 1) := by decide +kernel
theorem dX11_door_21 : decode cX11_door 21 = .ok (.ifCond .ne 6, 3) := by decide +kernel
theorem dX11_door_24 : decode cX11_door 24 = .ok (.bipush (-103), 2) := by decide +kernel
theorem dX11_door_26 : decode cX11_door 26 = .ok (.ireturn, 1) := by decide +kernel
theorem dX11_door_27 : decode cX11_door 27 = .ok (.aload_n 0, 1) := by decide +kernel
theorem dX11_door_28 : decode cX11_door 28 = .ok (.iload_n 1, 1) := by decide +kernel
theorem dX11_door_29 : decode cX11_door 29 = .ok (.invokevirtual 124, 3) := by decide +kernel
theorem dX11_door_32 : decode cX11_door 32 = .ok (.ifCond .eq 7, 3) := by decide +kernel
theorem dX11_door_35 : decode cX11_door 35 = .ok (.iconst 1, 1) := by decide +kernel
theorem dX11_door_36 : decode cX11_door 36 = .ok (.goto 4, 3) := by decide +kernel
theorem dX11_door_39 : decode cX11_door 39 = .ok (.iconst 0, 1) := by decide +kernel
theorem dX11_door_40 : decode cX11_door 40 = .ok (.istore_n 3, 1) := by decide +kernel
theorem dX11_door_41 : decode cX11_door 41 = .ok (.aload_n 0, 1) := by decide +kernel
theorem dX11_door_42 : decode cX11_door 42 = .ok (.iload_n 2, 1) := by decide +kernel
theorem dX11_door_43 : decode cX11_door 43 = .ok (.ifCond .eq 16, 3) := by decide +kernel
theorem dX11_door_46 : decode cX11_door 46 = .ok (.aload_n 0, 1) := by decide +kernel
theorem dX11_door_47 : decode cX11_door 47 = .ok (.getfield 108, 3) := by decide +kernel
theorem dX11_door_50 : decode cX11_door 50 = .ok (.iconst 1, 1) := by decide +kernel
theorem dX11_door_51 : decode cX11_door 51 = .ok (.iload_n 1, 1) := by decide +kernel
theorem dX11_door_52 : decode cX11_door 52 = .ok (.ishl, 1) := by decide +kernel
theorem dX11_door_53 : decode cX11_door 53 = .ok (.iconst (-1), 1) := by decide +kernel
theorem dX11_door_54 : decode cX11_door 54 = .ok (.ixor, 1) := by decide +kernel
theorem dX11_door_55 : decode cX11_door 55 = .ok (.iand, 1) := by decide +kernel
theorem dX11_door_56 : decode cX11_door 56 = .ok (.goto 11, 3) := by decide +kernel
theorem dX11_door_59 : decode cX11_door 59 = .ok (.aload_n 0, 1) := by decide +kernel
theorem dX11_door_60 : decode cX11_door 60 = .ok (.getfield 108, 3) := by decide +kernel
theorem dX11_door_63 : decode cX11_door 63 = .ok (.iconst 1, 1) := by decide +kernel
theorem dX11_door_64 : decode cX11_door 64 = .ok (.iload_n 1, 1) := by decide +kernel
theorem dX11_door_65 : decode cX11_door 65 = .ok (.ishl, 1) := by decide +kernel
theorem dX11_door_66 : decode cX11_door 66 = .ok (.ior, 1) := by decide +kernel
theorem dX11_door_67 : decode cX11_door 67 = .ok (.putfield 108, 3) := by decide +kernel
theorem dX11_door_70 : decode cX11_door 70 = .ok (.iload_n 3, 1) := by decide +kernel
theorem dX11_door_71 : decode cX11_door 71 = .ok (.ireturn, 1) := by decide +kernel
set_option maxRecDepth 20000 in
theorem ggX11_turn_X11_lacks : GoodIn wsX11_turn wsX11_lacks := goodIn_r _ [6, 7, 8, 9, 10, 11, 12, 13, 14, 15, 16, 17, 18, 19, 20, 21, 22, 23, 24, 25, 26, 27, 28, 29, 30, 31, 32, 33, 34, 35, 36, 37, 38, 39, 40, 41, 42, 43] (by decide +kernel) (by decide +kernel)
set_option maxRecDepth 20000 in
theorem gX11_turn_X11_lacks : GoodIn wsX11_turn (wsV RX11 104 RX11 yX11_lacks wsX11_lacks) := goodIn_app (goodIn_of _ (by decide +kernel)) ggX11_turn_X11_lacks
theorem dX11_turn_0 : decode cX11_turn 0 = .ok (.aload_n 0, 1) := by decide +kernel
theorem dX11_turn_1 : decode cX11_turn 1 = .ok (.invokevirtual 104, 3) := by decide +kernel
theorem dX11_turn_4 : decode cX11_turn 4 = .ok (.ifCond .eq 6, 3) := by decide +kernel
theorem dX11_turn_7 : decode cX11_turn 7 = .ok (.bipush (-103), 2) := by decide +kernel
theorem dX11_turn_9 : decode cX11_turn 9 = .ok (.ireturn, 1) := by decide +kernel
theorem dX11_turn_10 : decode cX11_turn 10 = .ok (.aload_n 0, 1) := by decide +kernel
theorem dX11_turn_11 : decode cX11_turn 11 = .ok (.iconst 1, 1) := by decide +kernel
theorem dX11_turn_12 : decode cX11_turn 12 = .ok (.aload_n 0, 1) := by decide +kernel
theorem dX11_turn_13 : decode cX11_turn 13 = .ok (.getfield 111, 3) := by decide +kernel
theorem dX11_turn_16 : decode cX11_turn 16 = .ok (.isub, 1) := by decide +kernel
theorem dX11_turn_17 : decode cX11_turn 17 = .ok (.putfield 111, 3) := by decide +kernel
theorem dX11_turn_20 : decode cX11_turn 20 = .ok (.aload_n 0, 1) := by decide +kernel
theorem dX11_turn_21 : decode cX11_turn 21 = .ok (.getfield 111, 3) := by decide +kernel
theorem dX11_turn_24 : decode cX11_turn 24 = .ok (.ireturn, 1) := by decide +kernel
set_option maxRecDepth 20000 in
theorem ggX11_isMan_X11_in : GoodIn wsX11_isMan wsX11_in := goodIn_r _ [5] (by decide +kernel) (by decide +kernel)
set_option maxRecDepth 20000 in
theorem gX11_isMan_X11_in : GoodIn wsX11_isMan (va_wsS RX11 78 yX11_in wsX11_in) := goodIn_app (goodIn_of _ (by decide +kernel)) ggX11_isMan_X11_in
theorem dX11_isMan_0 : decode cX11_isMan 0 = .ok (.iload_n 1, 1) := by decide +kernel
theorem dX11_isMan_1 : decode cX11_isMan 1 = .ok (.i2l, 1) := by decide +kernel
theorem dX11_isMan_2 : decode cX11_isMan 2 = .ok (.lconst 0, 1) := by decide +kernel
theorem dX11_isMan_3 : decode cX11_isMan 3 = .ok (.aload_n 0, 1) := by decide +kernel
theorem dX11_isMan_4 : decode cX11_isMan 4 = .ok (.getfield 117, 3) := by decide +kernel
theorem dX11_isMan_7 : decode cX11_isMan 7 = .ok (.iconst 1, 1) := by decide +kernel
theorem dX11_isMan_8 : decode cX11_isMan 8 = .ok (.isub, 1) := by decide +kernel
theorem dX11_isMan_9 : decode cX11_isMan 9 = .ok (.i2l, 1) := by decide +kernel
theorem dX11_isMan_10 : decode cX11_isMan 10 = .ok (.invokestatic 78, 3) := by decide +kernel
theorem dX11_isMan_13 : decode cX11_isMan 13 = .ok (.ireturn, 1) := by decide +kernel
set_option maxRecDepth 20000 in
theorem ggX11_man_X11_lacks : GoodIn wsX11_man wsX11_lacks := goodIn_r _ [9, 10, 14, 15, 16, 17, 18, 19, 20, 21, 22, 23, 24, 25, 26, 27, 28, 29, 30, 31, 32, 33, 34, 35, 36, 37, 38, 39, 40, 41, 42, 43, 44, 45, 46, 47, 48, 49] (by decide +kernel) (by decide +kernel)
set_option maxRecDepth 20000 in
theorem gX11_man_X11_lacks : GoodIn wsX11_man (wsV RX11 104 RX11 yX11_lacks wsX11_lacks) := goodIn_app (goodIn_of _ (by decide +kernel)) ggX11_man_X11_lacks
set_option maxRecDepth 20000 in
theorem ggX11_man_X11_in : GoodIn wsX11_man wsX11_in := goodIn_r _ [13] (by decide +kernel) (by decide +kernel)
set_option maxRecDepth 20000 in
theorem gX11_man_X11_in : GoodIn wsX11_man (va_wsS RX11 78 yX11_in wsX11_in) := goodIn_app (goodIn_of _ (by decide +kernel)) ggX11_man_X11_in
theorem dX11_man_0 : decode cX11_man 0 = .ok (.aload_n 0, 1) := by decide +kernel
theorem dX11_man_1 : decode cX11_man 1 = .ok (.invokevirtual 104, 3) := by decide +kernel
theorem dX11_man_4 : decode cX11_man 4 = .ok (.ifCond .eq 6, 3) := by decide +kernel
theorem dX11_man_7 : decode cX11_man 7 = .ok (.bipush (-103), 2) := by decide +kernel
theorem dX11_man_9 : decode cX11_man 9 = .ok (.ireturn, 1) := by decide +kernel
theorem dX11_man_10 : decode cX11_man 10 = .ok (.iload_n 1, 1) := by decide +kernel
theorem dX11_man_11 : decode cX11_man 11 = .ok (.i2l, 1) := by decide +kernel
theorem dX11_man_12 : decode cX11_man 12 = .ok (.lconst 0, 1) := by decide +kernel
theorem dX11_man_13 : decode cX11_man 13 = .ok (.ldc2_w 163, 3) := by decide +kernel
theorem dX11_man_16 : decode cX11_man 16 = .ok (.invokestatic 78, 3) := by decide +kernel
theorem dX11_man_19 : decode cX11_man 19 = .ok (.ifCond .ne 6, 3) := by decide +kernel
theorem dX11_man_22 : decode cX11_man 22 = .ok (.bipush (-102), 2) := by decide +kernel
theorem dX11_man_24 : decode cX11_man 24 = .ok (.ireturn, 1) := by decide +kernel
theorem dX11_man_25 : decode cX11_man 25 = .ok (.iload_n 2, 1) := by decide +kernel
theorem dX11_man_26 : decode cX11_man 26 = .ok (.i2l, 1) := by decide +kernel
theorem dX11_man_27 : decode cX11_man 27 = .ok (.lconst 0, 1) := by decide +kernel
theorem dX11_man_28 : decode cX11_man 28 = .ok (.ldc2_w 82, 3) := by decide +kernel
theorem dX11_man_31 : decode cX11_man 31 = .ok (.invokestatic 78, 3) := by decide +kernel
theorem dX11_man_34 : decode cX11_man 34 = .ok (.ifCond .ne 6, 3) := by decide +kernel
theorem dX11_man_37 : decode cX11_man 37 = .ok (.bipush (-101), 2) := by decide +kernel
theorem dX11_man_39 : decode cX11_man 39 = .ok (.ireturn, 1) := by decide +kernel
theorem dX11_man_40 : decode cX11_man 40 = .ok (.aload_n 0, 1) := by decide +kernel
theorem dX11_man_41 : decode cX11_man 41 = .ok (.getfield 117, 3) := by decide +kernel
theorem dX11_man_44 : decode cX11_man 44 = .ok (.bipush 6, 2) := by decide +kernel
theorem dX11_man_46 : decode cX11_man 46 = .ok (.if_icmp .ne 6, 3) := by decide +kernel
theorem dX11_man_49 : decode cX11_man 49 = .ok (.bipush (-104), 2) := by decide +kernel
theorem dX11_man_51 : decode cX11_man 51 = .ok (.ireturn, 1) := by decide +kernel
theorem dX11_man_52 : decode cX11_man 52 = .ok (.aload_n 0, 1) := by decide +kernel
theorem dX11_man_53 : decode cX11_man 53 = .ok (.getfield 34, 3) := by decide +kernel
theorem dX11_man_56 : decode cX11_man 56 = .ok (.iconst 3, 1) := by decide +kernel
theorem dX11_man_57 : decode cX11_man 57 = .ok (.aload_n 0, 1) := by decide +kernel
theorem dX11_man_58 : decode cX11_man 58 = .ok (.getfield 117, 3) := by decide +kernel
theorem dX11_man_61 : decode cX11_man 61 = .ok (.imul, 1) := by decide +kernel
theorem dX11_man_62 : decode cX11_man 62 = .ok (.iload_n 1, 1) := by decide +kernel
theorem dX11_man_63 : decode cX11_man 63 = .ok (.iastore, 1) := by decide +kernel
theorem dX11_man_64 : decode cX11_man 64 = .ok (.aload_n 0, 1) := by decide +kernel
theorem dX11_man_65 : decode cX11_man 65 = .ok (.getfield 34, 3) := by decide +kernel
theorem dX11_man_68 : decode cX11_man 68 = .ok (.iconst 3, 1) := by decide +kernel
theorem dX11_man_69 : decode cX11_man 69 = .ok (.aload_n 0, 1) := by decide +kernel
theorem dX11_man_70 : decode cX11_man 70 = .ok (.getfield 117, 3) := by decide +kernel
theorem dX11_man_73 : decode cX11_man 73 = .ok (.imul, 1) := by decide +kernel
theorem dX11_man_74 : decode cX11_man 74 = .ok (.iconst 1, 1) := by decide +kernel
theorem dX11_man_75 : decode cX11_man 75 = .ok (.iadd, 1) := by decide +kernel
theorem dX11_man_76 : decode cX11_man 76 = .ok (.iload_n 2, 1) := by decide +kernel
theorem dX11_man_77 : decode cX11_man 77 = .ok (.iastore, 1) := by decide +kernel
theorem dX11_man_78 : decode cX11_man 78 = .ok (.aload_n 0, 1) := by decide +kernel
theorem dX11_man_79 : decode cX11_man 79 = .ok (.getfield 34, 3) := by decide +kernel
theorem dX11_man_82 : decode cX11_man 82 = .ok (.iconst 3, 1) := by decide +kernel
theorem dX11_man_83 : decode cX11_man 83 = .ok (.aload_n 0, 1) := by decide +kernel
theorem dX11_man_84 : decode cX11_man 84 = .ok (.getfield 117, 3) := by decide +kernel
theorem dX11_man_87 : decode cX11_man 87 = .ok (.imul, 1) := by decide +kernel
theorem dX11_man_88 : decode cX11_man 88 = .ok (.iconst 2, 1) := by decide +kernel
theorem dX11_man_89 : decode cX11_man 89 = .ok (.iadd, 1) := by decide +kernel
theorem dX11_man_90 : decode cX11_man 90 = .ok (.iconst 0, 1) := by decide +kernel
theorem dX11_man_91 : decode cX11_man 91 = .ok (.iastore, 1) := by decide +kernel
theorem dX11_man_92 : decode cX11_man 92 = .ok (.aload_n 0, 1) := by decide +kernel
theorem dX11_man_93 : decode cX11_man 93 = .ok (.dup, 1) := by decide +kernel
theorem dX11_man_94 : decode cX11_man 94 = .ok (.getfield 117, 3) := by decide +kernel
theorem dX11_man_97 : decode cX11_man 97 = .ok (.iconst 1, 1) := by decide +kernel
theorem dX11_man_98 : decode cX11_man 98 = .ok (.iadd, 1) := by decide +kernel
theorem dX11_man_99 : decode cX11_man 99 = .ok (.putfield 117, 3) := by decide +kernel
theorem dX11_man_102 : decode cX11_man 102 = .ok (.aload_n 0, 1) := by decide +kernel
theorem dX11_man_103 : decode cX11_man 103 = .ok (.getfield 117, 3) := by decide +kernel
theorem dX11_man_106 : decode cX11_man 106 = .ok (.iconst 1, 1) := by decide +kernel
theorem dX11_man_107 : decode cX11_man 107 = .ok (.isub, 1) := by decide +kernel
theorem dX11_man_108 : decode cX11_man 108 = .ok (.ireturn, 1) := by decide +kernel
theorem dX11_bears_0 : decode cX11_bears 0 = .ok (.aload_n 0, 1) := by decide +kernel
theorem dX11_bears_1 : decode cX11_bears 1 = .ok (.getfield 34, 3) := by decide +kernel
theorem dX11_bears_4 : decode cX11_bears 4 = .ok (.iconst 3, 1) := by decide +kernel
theorem dX11_bears_5 : decode cX11_bears 5 = .ok (.iload_n 1, 1) := by decide +kernel
theorem dX11_bears_6 : decode cX11_bears 6 = .ok (.imul, 1) := by decide +kernel
theorem dX11_bears_7 : decode cX11_bears 7 = .ok (.iaload, 1) := by decide +kernel
theorem dX11_bears_8 : decode cX11_bears 8 = .ok (.istore_n 2, 1) := by decide +kernel
theorem dX11_bears_9 : decode cX11_bears 9 = .ok (.iload_n 2, 1) := by decide +kernel
theorem dX11_bears_10 : decode cX11_bears 10 = .ok (.iconst 2, 1) := by decide +kernel
theorem dX11_bears_11 : decode cX11_bears 11 = .ok (.if_icmp .ne 7, 3) := by decide +kernel
theorem dX11_bears_14 : decode cX11_bears 14 = .ok (.iconst 1, 1) := by decide +kernel
theorem dX11_bears_15 : decode cX11_bears 15 = .ok (.goto 23, 3) := by decide +kernel
theorem dX11_bears_18 : decode cX11_bears 18 = .ok (.iload_n 2, 1) := by decide +kernel
theorem dX11_bears_19 : decode cX11_bears 19 = .ok (.iconst 3, 1) := by decide +kernel
theorem dX11_bears_20 : decode cX11_bears 20 = .ok (.if_icmp .ne 7, 3) := by decide +kernel
theorem dX11_bears_23 : decode cX11_bears 23 = .ok (.iconst 2, 1) := by decide +kernel
theorem dX11_bears_24 : decode cX11_bears 24 = .ok (.goto 14, 3) := by decide +kernel
theorem dX11_bears_27 : decode cX11_bears 27 = .ok (.iload_n 2, 1) := by decide +kernel
theorem dX11_bears_28 : decode cX11_bears 28 = .ok (.iconst 4, 1) := by decide +kernel
theorem dX11_bears_29 : decode cX11_bears 29 = .ok (.if_icmp .ne 8, 3) := by decide +kernel
theorem dX11_bears_32 : decode cX11_bears 32 = .ok (.bipush 6, 2) := by decide +kernel
theorem dX11_bears_34 : decode cX11_bears 34 = .ok (.goto 4, 3) := by decide +kernel
theorem dX11_bears_37 : decode cX11_bears 37 = .ok (.iconst 4, 1) := by decide +kernel
theorem dX11_bears_38 : decode cX11_bears 38 = .ok (.ireturn, 1) := by decide +kernel
set_option maxRecDepth 20000 in
theorem ggX11_tellMan_X11_in : GoodIn wsX11_tellMan wsX11_in := goodIn_r _ [6] (by decide +kernel) (by decide +kernel)
set_option maxRecDepth 20000 in
theorem gX11_tellMan_X11_in : GoodIn wsX11_tellMan (va_wsS RX11 78 yX11_in wsX11_in) := goodIn_app (goodIn_of _ (by decide +kernel)) ggX11_tellMan_X11_in
set_option maxRecDepth 20000 in
theorem ggX11_tellMan_X11_bears : GoodIn wsX11_tellMan wsX11_bears := goodIn_r _ [10, 2, 11, 12, 13, 14, 15, 16, 17, 18, 19, 20, 21, 22, 23, 24, 25, 26, 27, 28, 29, 30, 31, 32, 33, 34, 35, 36, 37, 38, 39, 40, 41, 42, 43, 44, 45, 46] (by decide +kernel) (by decide +kernel)
set_option maxRecDepth 20000 in
theorem gX11_tellMan_X11_bears : GoodIn wsX11_tellMan (wsV RX11 167 RX11 yX11_bears wsX11_bears) := goodIn_app (goodIn_of _ (by decide +kernel)) ggX11_tellMan_X11_bears
theorem dX11_tellMan_0 : decode cX11_tellMan 0 = .ok (.iload_n 2, 1) := by decide +kernel
theorem dX11_tellMan_1 : decode cX11_tellMan 1 = .ok (.i2l, 1) := by decide +kernel
theorem dX11_tellMan_2 : decode cX11_tellMan 2 = .ok (.lconst 0, 1) := by decide +kernel
theorem dX11_tellMan_3 : decode cX11_tellMan 3 = .ok (.ldc2_w 165, 3) := by decide +kernel
theorem dX11_tellMan_6 : decode cX11_tellMan 6 = .ok (.invokestatic 78, 3) := by decide +kernel
theorem dX11_tellMan_9 : decode cX11_tellMan 9 = .ok (.ifCond .eq 16, 3) := by decide +kernel
theorem dX11_tellMan_12 : decode cX11_tellMan 12 = .ok (.aload_n 0, 1) := by decide +kernel
theorem dX11_tellMan_13 : decode cX11_tellMan 13 = .ok (.getfield 34, 3) := by decide +kernel
theorem dX11_tellMan_16 : decode cX11_tellMan 16 = .ok (.iconst 3, 1) := by decide +kernel
theorem dX11_tellMan_17 : decode cX11_tellMan 17 = .ok (.iload_n 1, 1) := by decide +kernel
theorem dX11_tellMan_18 : decode cX11_tellMan 18 = .ok (.imul, 1) := by decide +kernel
theorem dX11_tellMan_19 : decode cX11_tellMan 19 = .ok (.iload_n 2, 1) := by decide +kernel
theorem dX11_tellMan_20 : decode cX11_tellMan 20 = .ok (.iadd, 1) := by decide +kernel
theorem dX11_tellMan_21 : decode cX11_tellMan 21 = .ok (.iaload, 1) := by decide +kernel
theorem dX11_tellMan_22 : decode cX11_tellMan 22 = .ok (.goto 18, 3) := by decide +kernel
theorem dX11_tellMan_25 : decode cX11_tellMan 25 = .ok (.iload_n 2, 1) := by decide +kernel
theorem dX11_tellMan_26 : decode cX11_tellMan 26 = .ok (.iconst 3, 1) := by decide +kernel
theorem dX11_tellMan_27 : decode cX11_tellMan 27 = .ok (.if_icmp .ne 11, 3) := by decide +kernel
theorem dX11_tellMan_30 : decode cX11_tellMan 30 = .ok (.aload_n 0, 1) := by decide +kernel
theorem dX11_tellMan_31 : decode cX11_tellMan 31 = .ok (.iload_n 1, 1) := by decide +kernel
theorem dX11_tellMan_32 : decode cX11_tellMan 32 = .ok (.invokevirtual 167, 3) := by decide +kernel
theorem dX11_tellMan_35 : decode cX11_tellMan 35 = .ok (.goto 5, 3) := by decide +kernel
theorem dX11_tellMan_38 : decode cX11_tellMan 38 = .ok (.bipush (-102), 2) := by decide +kernel
theorem dX11_tellMan_40 : decode cX11_tellMan 40 = .ok (.ireturn, 1) := by decide +kernel
set_option maxRecDepth 20000 in
theorem ggX11_about_X11_isMan : GoodIn wsX11_about wsX11_isMan := goodIn_r _ [5, 6, 7, 8, 4, 9, 20, 21, 22, 23, 24, 25, 26, 27, 28, 29, 30, 31, 32, 33, 34, 35, 36, 37, 38, 39, 40, 41, 42, 43, 44, 45, 46, 47, 48, 49, 50, 51, 52, 53, 54, 55] (by decide +kernel) (by decide +kernel)
set_option maxRecDepth 20000 in
theorem gX11_about_X11_isMan : GoodIn wsX11_about (wsV RX11 170 RX11 yX11_isMan wsX11_isMan) := goodIn_app (goodIn_of _ (by decide +kernel)) ggX11_about_X11_isMan
set_option maxRecDepth 20000 in
theorem ggX11_about_X11_tellMan : GoodIn wsX11_about wsX11_tellMan := goodIn_r _ [13, 14, 15, 7, 8, 4, 9, 16, 17, 18, 19, 20, 21, 22, 23, 24, 25, 26, 27, 28, 29, 30, 31, 32, 33, 34, 35, 36, 37, 38, 39, 40, 41, 42, 43, 44, 45, 46, 47, 48, 49, 50, 51, 52, 53, 54, 55] (by decide +kernel) (by decide +kernel)
set_option maxRecDepth 20000 in
theorem gX11_about_X11_tellMan : GoodIn wsX11_about (wsV RX11 173 RX11 yX11_tellMan wsX11_tellMan) := goodIn_app (goodIn_of _ (by decide +kernel)) ggX11_about_X11_tellMan
theorem dX11_about_0 : decode cX11_about 0 = .ok (.aload_n 0, 1) := by decide +kernel
theorem dX11_about_1 : decode cX11_about 1 = .ok (.iload_n 1, 1) := by decide +kernel
theorem dX11_about_2 : decode cX11_about 2 = .ok (.invokevirtual 170, 3) := by decide +kernel
theorem dX11_about_5 : decode cX11_about 5 = .ok (.ifCond .eq 12, 3) := by decide +kernel
theorem dX11_about_8 : decode cX11_about 8 = .ok (.aload_n 0, 1) := by decide +kernel
theorem dX11_about_9 : decode cX11_about 9 = .ok (.iload_n 1, 1) := by decide +kernel
theorem dX11_about_10 : decode cX11_about 10 = .ok (.iload_n 2, 1) := by decide +kernel
theorem dX11_about_11 : decode cX11_about 11 = .ok (.invokevirtual 173, 3) := by decide +kernel
theorem dX11_about_14 : decode cX11_about 14 = .ok (.goto 5, 3) := by decide +kernel
theorem dX11_about_17 : decode cX11_about 17 = .ok (.bipush (-101), 2) := by decide +kernel
theorem dX11_about_19 : decode cX11_about 19 = .ok (.ireturn, 1) := by decide +kernel
set_option maxRecDepth 20000 in
theorem ggX11_as_X11_isMan : GoodIn wsX11_as wsX11_isMan := goodIn_r _ [7, 8, 9, 10, 6, 11, 12, 13, 14, 15, 16, 17, 18, 19, 20, 21, 22, 23, 24, 25, 26, 27, 28, 29, 30, 31, 32, 33, 34, 35, 36, 37, 38, 39, 40, 41, 42, 43, 44, 45, 46, 47] (by decide +kernel) (by decide +kernel)
set_option maxRecDepth 20000 in
theorem gX11_as_X11_isMan : GoodIn wsX11_as (wsV RX11 170 RX11 yX11_isMan wsX11_isMan) := goodIn_app (goodIn_of _ (by decide +kernel)) ggX11_as_X11_isMan
set_option maxRecDepth 20000 in
theorem ggX11_as_X11_in : GoodIn wsX11_as wsX11_in := goodIn_r _ [11] (by decide +kernel) (by decide +kernel)
set_option maxRecDepth 20000 in
theorem gX11_as_X11_in : GoodIn wsX11_as (va_wsS RX11 78 yX11_in wsX11_in) := goodIn_app (goodIn_of _ (by decide +kernel)) ggX11_as_X11_in
theorem dX11_as_0 : decode cX11_as 0 = .ok (.aload_n 0, 1) := by decide +kernel
theorem dX11_as_1 : decode cX11_as 1 = .ok (.iload_n 1, 1) := by decide +kernel
theorem dX11_as_2 : decode cX11_as 2 = .ok (.invokevirtual 170, 3) := by decide +kernel
theorem dX11_as_5 : decode cX11_as 5 = .ok (.ifCond .ne 6, 3) := by decide +kernel
theorem dX11_as_8 : decode cX11_as 8 = .ok (.bipush (-101), 2) := by decide +kernel
theorem dX11_as_10 : decode cX11_as 10 = .ok (.ireturn, 1) := by decide +kernel
theorem dX11_as_11 : decode cX11_as 11 = .ok (.iload_n 2, 1) := by decide +kernel
theorem dX11_as_12 : decode cX11_as 12 = .ok (.i2l, 1) := by decide +kernel
theorem dX11_as_13 : decode cX11_as 13 = .ok (.lconst 0, 1) := by decide +kernel
theorem dX11_as_14 : decode cX11_as 14 = .ok (.ldc2_w 163, 3) := by decide +kernel
theorem dX11_as_17 : decode cX11_as 17 = .ok (.invokestatic 78, 3) := by decide +kernel
theorem dX11_as_20 : decode cX11_as 20 = .ok (.ifCond .ne 6, 3) := by decide +kernel
theorem dX11_as_23 : decode cX11_as 23 = .ok (.bipush (-102), 2) := by decide +kernel
theorem dX11_as_25 : decode cX11_as 25 = .ok (.ireturn, 1) := by decide +kernel
theorem dX11_as_26 : decode cX11_as 26 = .ok (.aload_n 0, 1) := by decide +kernel
theorem dX11_as_27 : decode cX11_as 27 = .ok (.getfield 34, 3) := by decide +kernel
theorem dX11_as_30 : decode cX11_as 30 = .ok (.iconst 3, 1) := by decide +kernel
theorem dX11_as_31 : decode cX11_as 31 = .ok (.iload_n 1, 1) := by decide +kernel
theorem dX11_as_32 : decode cX11_as 32 = .ok (.imul, 1) := by decide +kernel
theorem dX11_as_33 : decode cX11_as 33 = .ok (.iaload, 1) := by decide +kernel
theorem dX11_as_34 : decode cX11_as 34 = .ok (.istore_n 3, 1) := by decide +kernel
theorem dX11_as_35 : decode cX11_as 35 = .ok (.iload_n 2, 1) := by decide +kernel
theorem dX11_as_36 : decode cX11_as 36 = .ok (.ifCond .eq 18, 3) := by decide +kernel
theorem dX11_as_39 : decode cX11_as 39 = .ok (.iload_n 2, 1) := by decide +kernel
theorem dX11_as_40 : decode cX11_as 40 = .ok (.iload_n 3, 1) := by decide +kernel
theorem dX11_as_41 : decode cX11_as 41 = .ok (.if_icmp .eq 13, 3) := by decide +kernel
theorem dX11_as_44 : decode cX11_as 44 = .ok (.iload_n 2, 1) := by decide +kernel
theorem dX11_as_45 : decode cX11_as 45 = .ok (.iconst 1, 1) := by decide +kernel
theorem dX11_as_46 : decode cX11_as 46 = .ok (.if_icmp .ne 12, 3) := by decide +kernel
theorem dX11_as_49 : decode cX11_as 49 = .ok (.iload_n 3, 1) := by decide +kernel
theorem dX11_as_50 : decode cX11_as 50 = .ok (.iconst 4, 1) := by decide +kernel
theorem dX11_as_51 : decode cX11_as 51 = .ok (.if_icmp .ne 7, 3) := by decide +kernel
theorem dX11_as_54 : decode cX11_as 54 = .ok (.iconst 1, 1) := by decide +kernel
theorem dX11_as_55 : decode cX11_as 55 = .ok (.goto 4, 3) := by decide +kernel
theorem dX11_as_58 : decode cX11_as 58 = .ok (.iconst 0, 1) := by decide +kernel
theorem dX11_as_59 : decode cX11_as 59 = .ok (.istore 4, 2) := by decide +kernel
theorem dX11_as_61 : decode cX11_as 61 = .ok (.iload 4, 2) := by decide +kernel
theorem dX11_as_63 : decode cX11_as 63 = .ok (.ifCond .eq 7, 3) := by decide +kernel
theorem dX11_as_66 : decode cX11_as 66 = .ok (.iload_n 1, 1) := by decide +kernel
theorem dX11_as_67 : decode cX11_as 67 = .ok (.goto 4, 3) := by decide +kernel
theorem dX11_as_70 : decode cX11_as 70 = .ok (.iconst (-1), 1) := by decide +kernel
theorem dX11_as_71 : decode cX11_as 71 = .ok (.ireturn, 1) := by decide +kernel
set_option maxRecDepth 20000 in
theorem ggX11_walk_X11_isMan : GoodIn wsX11_walk wsX11_isMan := goodIn_r _ [6, 7, 8, 9, 5, 10, 26, 27, 28, 29, 30, 31, 32, 33, 34, 35, 36, 37, 38, 39, 40, 41, 42, 43, 44, 45, 46, 47, 48, 49, 50, 51, 52, 53, 54, 55, 56, 57, 58, 59, 60, 61] (by decide +kernel) (by decide +kernel)
set_option maxRecDepth 20000 in
theorem gX11_walk_X11_isMan : GoodIn wsX11_walk (wsV RX11 170 RX11 yX11_isMan wsX11_isMan) := goodIn_app (goodIn_of _ (by decide +kernel)) ggX11_walk_X11_isMan
set_option maxRecDepth 20000 in
theorem ggX11_walk_X11_isGallery : GoodIn wsX11_walk wsX11_isGallery := goodIn_r _ [14, 15, 8, 9, 5, 10, 26, 27, 28, 29, 30, 31, 32, 33, 34, 35, 36, 37, 38, 39, 40, 41, 42, 43, 44, 45, 46, 47, 48, 49, 50, 51, 52, 53, 54, 55, 56, 57, 58, 59, 60, 61] (by decide +kernel) (by decide +kernel)
set_option maxRecDepth 20000 in
theorem gX11_walk_X11_isGallery : GoodIn wsX11_walk (wsV RX11 148 RX11 yX11_isGallery wsX11_isGallery) := goodIn_app (goodIn_of _ (by decide +kernel)) ggX11_walk_X11_isGallery
set_option maxRecDepth 20000 in
theorem ggX11_walk_X11_otherEnd : GoodIn wsX11_walk wsX11_otherEnd := goodIn_r _ [19, 20, 26, 27, 28, 29, 30, 31, 32, 33, 34, 35, 36, 37, 38, 39, 40, 41, 42, 43, 44, 45, 46, 47, 48, 49, 50, 51, 52, 53, 54, 55, 56, 57, 58, 59, 60, 61] (by decide +kernel) (by decide +kernel)
set_option maxRecDepth 20000 in
theorem gX11_walk_X11_otherEnd : GoodIn wsX11_walk (wsV RX11 138 RX11 yX11_otherEnd wsX11_otherEnd) := goodIn_app (goodIn_of _ (by decide +kernel)) ggX11_walk_X11_otherEnd
set_option maxRecDepth 20000 in
theorem ggX11_walk_X11_isOpen : GoodIn wsX11_walk wsX11_isOpen := goodIn_r _ [24, 25, 26, 27, 28, 29, 30, 31, 32, 33, 34, 35, 36, 37, 38, 39, 40, 41, 42, 43, 44, 45, 46, 47, 48, 49, 50, 51, 52, 53, 54, 55, 56, 57, 58, 59, 60, 61] (by decide +kernel) (by decide +kernel)
set_option maxRecDepth 20000 in
theorem gX11_walk_X11_isOpen : GoodIn wsX11_walk (wsV RX11 124 RX11 yX11_isOpen wsX11_isOpen) := goodIn_app (goodIn_of _ (by decide +kernel)) ggX11_walk_X11_isOpen
theorem dX11_walk_0 : decode cX11_walk 0 = .ok (.aload_n 0, 1) := by decide +kernel
theorem dX11_walk_1 : decode cX11_walk 1 = .ok (.iload_n 1, 1) := by decide +kernel
theorem dX11_walk_2 : decode cX11_walk 2 = .ok (.invokevirtual 170, 3) := by decide +kernel
theorem dX11_walk_5 : decode cX11_walk 5 = .ok (.ifCond .eq 11, 3) := by decide +kernel
theorem dX11_walk_8 : decode cX11_walk 8 = .ok (.aload_n 0, 1) := by decide +kernel
theorem dX11_walk_9 : decode cX11_walk 9 = .ok (.iload_n 2, 1) := by decide +kernel
theorem dX11_walk_10 : decode cX11_walk 10 = .ok (.invokevirtual 148, 3) := by decide +kernel
theorem dX11_walk_13 : decode cX11_walk 13 = .ok (.ifCond .ne 6, 3) := by decide +kernel
theorem dX11_walk_16 : decode cX11_walk 16 = .ok (.bipush (-101), 2) := by decide +kernel
theorem dX11_walk_18 : decode cX11_walk 18 = .ok (.ireturn, 1) := by decide +kernel
theorem dX11_walk_19 : decode cX11_walk 19 = .ok (.aload_n 0, 1) := by decide +kernel
theorem dX11_walk_20 : decode cX11_walk 20 = .ok (.iload_n 2, 1) := by decide +kernel
theorem dX11_walk_21 : decode cX11_walk 21 = .ok (.aload_n 0, 1) := by decide +kernel
theorem dX11_walk_22 : decode cX11_walk 22 = .ok (.getfield 34, 3) := by decide +kernel
theorem dX11_walk_25 : decode cX11_walk 25 = .ok (.iconst 3, 1) := by decide +kernel
theorem dX11_walk_26 : decode cX11_walk 26 = .ok (.iload_n 1, 1) := by decide +kernel
theorem dX11_walk_27 : decode cX11_walk 27 = .ok (.imul, 1) := by decide +kernel
theorem dX11_walk_28 : decode cX11_walk 28 = .ok (.iconst 1, 1) := by decide +kernel
theorem dX11_walk_29 : decode cX11_walk 29 = .ok (.iadd, 1) := by decide +kernel
theorem dX11_walk_30 : decode cX11_walk 30 = .ok (.iaload, 1) := by decide +kernel
theorem dX11_walk_31 : decode cX11_walk 31 = .ok (.invokevirtual 138, 3) := by decide +kernel
theorem dX11_walk_34 : decode cX11_walk 34 = .ok (.istore_n 3, 1) := by decide +kernel
theorem dX11_walk_35 : decode cX11_walk 35 = .ok (.aload_n 0, 1) := by decide +kernel
theorem dX11_walk_36 : decode cX11_walk 36 = .ok (.getfield 34, 3) := by decide +kernel
theorem dX11_walk_39 : decode cX11_walk 39 = .ok (.iconst 3, 1) := by decide +kernel
theorem dX11_walk_40 : decode cX11_walk 40 = .ok (.iload_n 1, 1) := by decide +kernel
theorem dX11_walk_41 : decode cX11_walk 41 = .ok (.imul, 1) := by decide +kernel
theorem dX11_walk_42 : decode cX11_walk 42 = .ok (.iconst 2, 1) := by decide +kernel
theorem dX11_walk_43 : decode cX11_walk 43 = .ok (.iadd, 1) := by decide +kernel
theorem dX11_walk_44 : decode cX11_walk 44 = .ok (.iaload, 1) := by decide +kernel
theorem dX11_walk_45 : decode cX11_walk 45 = .ok (.ifCond .ne 32, 3) := by decide +kernel
theorem dX11_walk_48 : decode cX11_walk 48 = .ok (.iload_n 3, 1) := by decide +kernel
theorem dX11_walk_49 : decode cX11_walk 49 = .ok (.iconst (-1), 1) := by decide +kernel
theorem dX11_walk_50 : decode cX11_walk 50 = .ok (.if_icmp .eq 27, 3) := by decide +kernel
theorem dX11_walk_53 : decode cX11_walk 53 = .ok (.aload_n 0, 1) := by decide +kernel
theorem dX11_walk_54 : decode cX11_walk 54 = .ok (.iload_n 2, 1) := by decide +kernel
theorem dX11_walk_55 : decode cX11_walk 55 = .ok (.invokevirtual 124, 3) := by decide +kernel
theorem dX11_walk_58 : decode cX11_walk 58 = .ok (.ifCond .ne 15, 3) := by decide +kernel
theorem dX11_walk_61 : decode cX11_walk 61 = .ok (.aload_n 0, 1) := by decide +kernel
theorem dX11_walk_62 : decode cX11_walk 62 = .ok (.getfield 34, 3) := by decide +kernel
theorem dX11_walk_65 : decode cX11_walk 65 = .ok (.iconst 3, 1) := by decide +kernel
theorem dX11_walk_66 : decode cX11_walk 66 = .ok (.iload_n 1, 1) := by decide +kernel
theorem dX11_walk_67 : decode cX11_walk 67 = .ok (.imul, 1) := by decide +kernel
theorem dX11_walk_68 : decode cX11_walk 68 = .ok (.iaload, 1) := by decide +kernel
theorem dX11_walk_69 : decode cX11_walk 69 = .ok (.iconst 3, 1) := by decide +kernel
theorem dX11_walk_70 : decode cX11_walk 70 = .ok (.if_icmp .ne 7, 3) := by decide +kernel
theorem dX11_walk_73 : decode cX11_walk 73 = .ok (.iconst 1, 1) := by decide +kernel
theorem dX11_walk_74 : decode cX11_walk 74 = .ok (.goto 4, 3) := by decide +kernel
theorem dX11_walk_77 : decode cX11_walk 77 = .ok (.iconst 0, 1) := by decide +kernel
theorem dX11_walk_78 : decode cX11_walk 78 = .ok (.istore 4, 2) := by decide +kernel
theorem dX11_walk_80 : decode cX11_walk 80 = .ok (.iload 4, 2) := by decide +kernel
theorem dX11_walk_82 : decode cX11_walk 82 = .ok (.ifCond .ne 6, 3) := by decide +kernel
theorem dX11_walk_85 : decode cX11_walk 85 = .ok (.bipush (-103), 2) := by decide +kernel
theorem dX11_walk_87 : decode cX11_walk 87 = .ok (.ireturn, 1) := by decide +kernel
theorem dX11_walk_88 : decode cX11_walk 88 = .ok (.aload_n 0, 1) := by decide +kernel
theorem dX11_walk_89 : decode cX11_walk 89 = .ok (.getfield 34, 3) := by decide +kernel
theorem dX11_walk_92 : decode cX11_walk 92 = .ok (.iconst 3, 1) := by decide +kernel
theorem dX11_walk_93 : decode cX11_walk 93 = .ok (.iload_n 1, 1) := by decide +kernel
theorem dX11_walk_94 : decode cX11_walk 94 = .ok (.imul, 1) := by decide +kernel
theorem dX11_walk_95 : decode cX11_walk 95 = .ok (.iconst 1, 1) := by decide +kernel
theorem dX11_walk_96 : decode cX11_walk 96 = .ok (.iadd, 1) := by decide +kernel
theorem dX11_walk_97 : decode cX11_walk 97 = .ok (.iload_n 3, 1) := by decide +kernel
theorem dX11_walk_98 : decode cX11_walk 98 = .ok (.iastore, 1) := by decide +kernel
theorem dX11_walk_99 : decode cX11_walk 99 = .ok (.iload_n 3, 1) := by decide +kernel
theorem dX11_walk_100 : decode cX11_walk 100 = .ok (.ireturn, 1) := by decide +kernel
set_option maxRecDepth 20000 in
theorem ggX11_minute_X11_layHeights : GoodIn wsX11_minute wsX11_layHeights := goodIn_r _ [9, 10, 11, 12, 13, 8, 14, 15, 16, 17, 18, 19, 20, 21, 22, 23, 24, 25, 26, 27, 28, 29, 30, 31, 32, 33, 50, 51, 52, 53, 54, 55, 56, 57, 58, 59, 60, 61, 62, 63, 64, 65, 66, 67, 68, 69, 70, 71, 72, 73, 74, 75, 76, 77, 78, 79, 80, 81, 82, 83, 84, 85] (by decide +kernel) (by decide +kernel)
set_option maxRecDepth 20000 in
theorem gX11_minute_X11_layHeights : GoodIn wsX11_minute (wsV RX11 145 RX11 yX11_layHeights wsX11_layHeights) := goodIn_app (goodIn_of _ (by decide +kernel)) ggX11_minute_X11_layHeights
set_option maxRecDepth 20000 in
theorem ggX11_minute_X11_breathes : GoodIn wsX11_minute wsX11_breathes := goodIn_r _ [37, 27, 38, 39, 40, 8, 41, 28, 42, 43, 44, 45, 10, 29, 30, 31, 32, 33, 50, 51, 52, 53, 54, 55, 56, 57, 58, 59, 60, 61, 62, 63, 64, 65, 66, 67, 68, 69, 70, 71, 72, 73, 74, 75, 76, 77, 78, 79, 80, 81, 82, 83, 84, 85] (by decide +kernel) (by decide +kernel)
set_option maxRecDepth 20000 in
theorem gX11_minute_X11_breathes : GoodIn wsX11_minute (wsV RX11 154 RX11 yX11_breathes wsX11_breathes) := goodIn_app (goodIn_of _ (by decide +kernel)) ggX11_minute_X11_breathes
set_option maxRecDepth 20000 in
theorem ggX11_minute_X11_bears : GoodIn wsX11_minute wsX11_bears := goodIn_r _ [49, 3, 50, 51, 52, 53, 54, 55, 56, 57, 58, 59, 60, 61, 62, 63, 64, 65, 66, 67, 68, 69, 70, 71, 72, 73, 74, 75, 76, 77, 78, 79, 80, 81, 82, 83, 84, 85] (by decide +kernel) (by decide +kernel)
set_option maxRecDepth 20000 in
theorem gX11_minute_X11_bears : GoodIn wsX11_minute (wsV RX11 167 RX11 yX11_bears wsX11_bears) := goodIn_app (goodIn_of _ (by decide +kernel)) ggX11_minute_X11_bears
theorem dX11_minute_0 : decode cX11_minute 0 = .ok (.aload_n 0, 1) := by decide +kernel
theorem dX11_minute_1 : decode cX11_minute 1 = .ok (.invokevirtual 145, 3) := by decide +kernel
theorem dX11_minute_4 : decode cX11_minute 4 = .ok (.iconst 0, 1) := by decide +kernel
theorem dX11_minute_5 : decode cX11_minute 5 = .ok (.istore_n 1, 1) := by decide +kernel
theorem dX11_minute_6 : decode cX11_minute 6 = .ok (.iload_n 1, 1) := by decide +kernel
theorem dX11_minute_7 : decode cX11_minute 7 = .ok (.bipush 7, 2) := by decide +kernel
theorem dX11_minute_9 : decode cX11_minute 9 = .ok (.if_icmp .ge 51, 3) := by decide +kernel
theorem dX11_minute_12 : decode cX11_minute 12 = .ok (.aload_n 0, 1) := by decide +kernel
theorem dX11_minute_13 : decode cX11_minute 13 = .ok (.getfield 25, 3) := by decide +kernel
theorem dX11_minute_16 : decode cX11_minute 16 = .ok (.iload_n 1, 1) := by decide +kernel
theorem dX11_minute_17 : decode cX11_minute 17 = .ok (.aload_n 0, 1) := by decide +kernel
theorem dX11_minute_18 : decode cX11_minute 18 = .ok (.iload_n 1, 1) := by decide +kernel
theorem dX11_minute_19 : decode cX11_minute 19 = .ok (.invokevirtual 154, 3) := by decide +kernel
theorem dX11_minute_22 : decode cX11_minute 22 = .ok (.ifCond .eq 7, 3) := by decide +kernel
theorem dX11_minute_25 : decode cX11_minute 25 = .ok (.iconst 0, 1) := by decide +kernel
theorem dX11_minute_26 : decode cX11_minute 26 = .ok (.goto 27, 3) := by decide +kernel
theorem dX11_minute_29 : decode cX11_minute 29 = .ok (.aload_n 0, 1) := by decide +kernel
theorem dX11_minute_30 : decode cX11_minute 30 = .ok (.getfield 25, 3) := by decide +kernel
theorem dX11_minute_33 : decode cX11_minute 33 = .ok (.iload_n 1, 1) := by decide +kernel
theorem dX11_minute_34 : decode cX11_minute 34 = .ok (.iaload, 1) := by decide +kernel
theorem dX11_minute_35 : decode cX11_minute 35 = .ok (.bipush 9, 2) := by decide +kernel
theorem dX11_minute_37 : decode cX11_minute 37 = .ok (.if_icmp .ge 14, 3) := by decide +kernel
theorem dX11_minute_40 : decode cX11_minute 40 = .ok (.aload_n 0, 1) := by decide +kernel
theorem dX11_minute_41 : decode cX11_minute 41 = .ok (.getfield 25, 3) := by decide +kernel
theorem dX11_minute_44 : decode cX11_minute 44 = .ok (.iload_n 1, 1) := by decide +kernel
theorem dX11_minute_45 : decode cX11_minute 45 = .ok (.iaload, 1) := by decide +kernel
theorem dX11_minute_46 : decode cX11_minute 46 = .ok (.iconst 1, 1) := by decide +kernel
theorem dX11_minute_47 : decode cX11_minute 47 = .ok (.iadd, 1) := by decide +kernel
theorem dX11_minute_48 : decode cX11_minute 48 = .ok (.goto 5, 3) := by decide +kernel
theorem dX11_minute_51 : decode cX11_minute 51 = .ok (.bipush 9, 2) := by decide +kernel
theorem dX11_minute_53 : decode cX11_minute 53 = .ok (.iastore, 1) := by decide +kernel
theorem dX11_minute_54 : decode cX11_minute 54 = .ok (.iinc 1 1, 3) := by decide +kernel
theorem dX11_minute_57 : decode cX11_minute 57 = .ok (.goto (-51), 3) := by decide +kernel
theorem dX11_minute_60 : decode cX11_minute 60 = .ok (.iconst 0, 1) := by decide +kernel
theorem dX11_minute_61 : decode cX11_minute 61 = .ok (.istore_n 1, 1) := by decide +kernel
theorem dX11_minute_62 : decode cX11_minute 62 = .ok (.iconst 0, 1) := by decide +kernel
theorem dX11_minute_63 : decode cX11_minute 63 = .ok (.istore_n 2, 1) := by decide +kernel
theorem dX11_minute_64 : decode cX11_minute 64 = .ok (.iload_n 2, 1) := by decide +kernel
theorem dX11_minute_65 : decode cX11_minute 65 = .ok (.aload_n 0, 1) := by decide +kernel
theorem dX11_minute_66 : decode cX11_minute 66 = .ok (.getfield 117, 3) := by decide +kernel
theorem dX11_minute_69 : decode cX11_minute 69 = .ok (.if_icmp .ge 59, 3) := by decide +kernel
theorem dX11_minute_72 : decode cX11_minute 72 = .ok (.aload_n 0, 1) := by decide +kernel
theorem dX11_minute_73 : decode cX11_minute 73 = .ok (.getfield 34, 3) := by decide +kernel
theorem dX11_minute_76 : decode cX11_minute 76 = .ok (.iconst 3, 1) := by decide +kernel
theorem dX11_minute_77 : decode cX11_minute 77 = .ok (.iload_n 2, 1) := by decide +kernel
theorem dX11_minute_78 : decode cX11_minute 78 = .ok (.imul, 1) := by decide +kernel
theorem dX11_minute_79 : decode cX11_minute 79 = .ok (.iconst 2, 1) := by decide +kernel
theorem dX11_minute_80 : decode cX11_minute 80 = .ok (.iadd, 1) := by decide +kernel
theorem dX11_minute_81 : decode cX11_minute 81 = .ok (.iaload, 1) := by decide +kernel
theorem dX11_minute_82 : decode cX11_minute 82 = .ok (.ifCond .ne 40, 3) := by decide +kernel
theorem dX11_minute_85 : decode cX11_minute 85 = .ok (.aload_n 0, 1) := by decide +kernel
theorem dX11_minute_86 : decode cX11_minute 86 = .ok (.getfield 25, 3) := by decide +kernel
theorem dX11_minute_89 : decode cX11_minute 89 = .ok (.aload_n 0, 1) := by decide +kernel
theorem dX11_minute_90 : decode cX11_minute 90 = .ok (.getfield 34, 3) := by decide +kernel
theorem dX11_minute_93 : decode cX11_minute 93 = .ok (.iconst 3, 1) := by decide +kernel
theorem dX11_minute_94 : decode cX11_minute 94 = .ok (.iload_n 2, 1) := by decide +kernel
theorem dX11_minute_95 : decode cX11_minute 95 = .ok (.imul, 1) := by decide +kernel
theorem dX11_minute_96 : decode cX11_minute 96 = .ok (.iconst 1, 1) := by decide +kernel
theorem dX11_minute_97 : decode cX11_minute 97 = .ok (.iadd, 1) := by decide +kernel
theorem dX11_minute_98 : decode cX11_minute 98 = .ok (.iaload, 1) := by decide +kernel
theorem dX11_minute_99 : decode cX11_minute 99 = .ok (.iaload, 1) := by decide +kernel
theorem dX11_minute_100 : decode cX11_minute 100 = .ok (.aload_n 0, 1) := by decide +kernel
theorem dX11_minute_101 : decode cX11_minute 101 = .ok (.iload_n 2, 1) := by decide +kernel
theorem dX11_minute_102 : decode cX11_minute 102 = .ok (.invokevirtual 167, 3) := by decide +kernel
theorem dX11_minute_105 : decode cX11_minute 105 = .ok (.if_icmp .le 17, 3) := by decide +kernel
theorem dX11_minute_108 : decode cX11_minute 108 = .ok (.aload_n 0, 1) := by decide +kernel
theorem dX11_minute_109 : decode cX11_minute 109 = .ok (.getfield 34, 3) := by decide +kernel
theorem dX11_minute_112 : decode cX11_minute 112 = .ok (.iconst 3, 1) := by decide +kernel
theorem dX11_minute_113 : decode cX11_minute 113 = .ok (.iload_n 2, 1) := by decide +kernel
theorem dX11_minute_114 : decode cX11_minute 114 = .ok (.imul, 1) := by decide +kernel
theorem dX11_minute_115 : decode cX11_minute 115 = .ok (.iconst 2, 1) := by decide +kernel
theorem dX11_minute_116 : decode cX11_minute 116 = .ok (.iadd, 1) := by decide +kernel
theorem dX11_minute_117 : decode cX11_minute 117 = .ok (.iconst 1, 1) := by decide +kernel
theorem dX11_minute_118 : decode cX11_minute 118 = .ok (.iastore, 1) := by decide +kernel
theorem dX11_minute_119 : decode cX11_minute 119 = .ok (.iinc 1 1, 3) := by decide +kernel
theorem dX11_minute_122 : decode cX11_minute 122 = .ok (.iinc 2 1, 3) := by decide +kernel
theorem dX11_minute_125 : decode cX11_minute 125 = .ok (.goto (-61), 3) := by decide +kernel
theorem dX11_minute_128 : decode cX11_minute 128 = .ok (.aload_n 0, 1) := by decide +kernel
theorem dX11_minute_129 : decode cX11_minute 129 = .ok (.dup, 1) := by decide +kernel
theorem dX11_minute_130 : decode cX11_minute 130 = .ok (.getfield 114, 3) := by decide +kernel
theorem dX11_minute_133 : decode cX11_minute 133 = .ok (.iconst 1, 1) := by decide +kernel
theorem dX11_minute_134 : decode cX11_minute 134 = .ok (.iadd, 1) := by decide +kernel
theorem dX11_minute_135 : decode cX11_minute 135 = .ok (.putfield 114, 3) := by decide +kernel
theorem dX11_minute_138 : decode cX11_minute 138 = .ok (.iload_n 1, 1) := by decide +kernel
theorem dX11_minute_139 : decode cX11_minute 139 = .ok (.ireturn, 1) := by decide +kernel
set_option maxRecDepth 20000 in
theorem ggX11_minutes_X11_in : GoodIn wsX11_minutes wsX11_in := goodIn_r _ [5] (by decide +kernel) (by decide +kernel)
set_option maxRecDepth 20000 in
theorem gX11_minutes_X11_in : GoodIn wsX11_minutes (va_wsS RX11 78 yX11_in wsX11_in) := goodIn_app (goodIn_of _ (by decide +kernel)) ggX11_minutes_X11_in
set_option maxRecDepth 20000 in
theorem ggX11_minutes_X11_lacks : GoodIn wsX11_minutes wsX11_lacks := goodIn_r _ [9, 10, 62, 63, 64, 65, 66, 67, 68, 69, 70, 71, 72, 73, 74, 75, 76, 77, 78, 79, 80, 81, 82, 83, 84, 85, 86, 87, 88, 89, 90, 91, 92, 93, 94, 95, 96, 97] (by decide +kernel) (by decide +kernel)
set_option maxRecDepth 20000 in
theorem gX11_minutes_X11_lacks : GoodIn wsX11_minutes (wsV RX11 104 RX11 yX11_lacks wsX11_lacks) := goodIn_app (goodIn_of _ (by decide +kernel)) ggX11_minutes_X11_lacks
set_option maxRecDepth 20000 in
theorem ggX11_minutes_X11_minute : GoodIn wsX11_minutes wsX11_minute := goodIn_r _ [14, 15, 16, 17, 18, 19, 20, 21, 4, 22, 23, 24, 25, 26, 27, 28, 29, 30, 31, 32, 33, 34, 35, 36, 37, 38, 39, 10, 40, 41, 42, 43, 44, 45, 46, 47, 48, 49, 50, 51, 52, 53, 54, 55, 56, 57, 58, 59, 60, 61, 62, 63, 64, 65, 66, 67, 68, 69, 70, 71, 72, 73, 74, 75, 76, 77, 78, 79, 80, 81, 82, 83, 84, 85, 86, 87, 88, 89, 90, 91, 92, 93, 94, 95, 96, 97] (by decide +kernel) (by decide +kernel)
set_option maxRecDepth 20000 in
theorem gX11_minutes_X11_minute : GoodIn wsX11_minutes (wsV RX11 178 RX11 yX11_minute wsX11_minute) := goodIn_app (goodIn_of _ (by decide +kernel)) ggX11_minutes_X11_minute
theorem dX11_minutes_0 : decode cX11_minutes 0 = .ok (.iload_n 1, 1) := by decide +kernel
theorem dX11_minutes_1 : decode cX11_minutes 1 = .ok (.i2l, 1) := by decide +kernel
theorem dX11_minutes_2 : decode cX11_minutes 2 = .ok (.lconst 1, 1) := by decide +kernel
theorem dX11_minutes_3 : decode cX11_minutes 3 = .ok (.ldc2_w 176, 3) := by decide +kernel
theorem dX11_minutes_6 : decode cX11_minutes 6 = .ok (.invokestatic 78, 3) := by decide +kernel
theorem dX11_minutes_9 : decode cX11_minutes 9 = .ok (.ifCond .ne 6, 3) := by decide +kernel
theorem dX11_minutes_12 : decode cX11_minutes 12 = .ok (.bipush (-102), 2) := by decide +kernel
theorem dX11_minutes_14 : decode cX11_minutes 14 = .ok (.ireturn, 1) := by decide +kernel
theorem dX11_minutes_15 : decode cX11_minutes 15 = .ok (.aload_n 0, 1) := by decide +kernel
theorem dX11_minutes_16 : decode cX11_minutes 16 = .ok (.invokevirtual 104, 3) := by decide +kernel
theorem dX11_minutes_19 : decode cX11_minutes 19 = .ok (.ifCond .eq 6, 3) := by decide +kernel
theorem dX11_minutes_22 : decode cX11_minutes 22 = .ok (.bipush (-103), 2) := by decide +kernel
theorem dX11_minutes_24 : decode cX11_minutes 24 = .ok (.ireturn, 1) := by decide +kernel
theorem dX11_minutes_25 : decode cX11_minutes 25 = .ok (.iconst 0, 1) := by decide +kernel
theorem dX11_minutes_26 : decode cX11_minutes 26 = .ok (.istore_n 2, 1) := by decide +kernel
theorem dX11_minutes_27 : decode cX11_minutes 27 = .ok (.iconst 0, 1) := by decide +kernel
theorem dX11_minutes_28 : decode cX11_minutes 28 = .ok (.istore_n 3, 1) := by decide +kernel
theorem dX11_minutes_29 : decode cX11_minutes 29 = .ok (.iload_n 3, 1) := by decide +kernel
theorem dX11_minutes_30 : decode cX11_minutes 30 = .ok (.iload_n 1, 1) := by decide +kernel
theorem dX11_minutes_31 : decode cX11_minutes 31 = .ok (.if_icmp .ge 20, 3) := by decide +kernel
theorem dX11_minutes_34 : decode cX11_minutes 34 = .ok (.aload_n 0, 1) := by decide +kernel
theorem dX11_minutes_35 : decode cX11_minutes 35 = .ok (.invokevirtual 178, 3) := by decide +kernel
theorem dX11_minutes_38 : decode cX11_minutes 38 = .ok (.istore 4, 2) := by decide +kernel
theorem dX11_minutes_40 : decode cX11_minutes 40 = .ok (.iload_n 2, 1) := by decide +kernel
theorem dX11_minutes_41 : decode cX11_minutes 41 = .ok (.iload 4, 2) := by decide +kernel
theorem dX11_minutes_43 : decode cX11_minutes 43 = .ok (.iadd, 1) := by decide +kernel
theorem dX11_minutes_44 : decode cX11_minutes 44 = .ok (.istore_n 2, 1) := by decide +kernel
theorem dX11_minutes_45 : decode cX11_minutes 45 = .ok (.iinc 3 1, 3) := by decide +kernel
theorem dX11_minutes_48 : decode cX11_minutes 48 = .ok (.goto (-19), 3) := by decide +kernel
theorem dX11_minutes_51 : decode cX11_minutes 51 = .ok (.iload_n 2, 1) := by decide +kernel
theorem dX11_minutes_52 : decode cX11_minutes 52 = .ok (.ireturn, 1) := by decide +kernel
set_option maxRecDepth 20000 in
theorem ggX11_laySmoke_X11_into : GoodIn wsX11_laySmoke wsX11_into := goodIn_r _ [9, 4, 10, 11, 12, 13, 8, 14, 15, 20, 21, 22, 23, 24, 25, 26, 27, 28, 29, 30, 31, 32, 33, 34, 35, 36, 37, 38, 39, 40, 41, 42, 43, 44, 45, 46, 47, 48, 49, 50, 51, 52, 53, 54, 55] (by decide +kernel) (by decide +kernel)
set_option maxRecDepth 20000 in
theorem gX11_laySmoke_X11_into : GoodIn wsX11_laySmoke (wsV RX11 142 RX11 yX11_into wsX11_into) := goodIn_app (goodIn_of _ (by decide +kernel)) ggX11_laySmoke_X11_into
set_option maxRecDepth 20000 in
theorem ggX11_laySmoke_X11_otherEnd : GoodIn wsX11_laySmoke wsX11_otherEnd := goodIn_r _ [19, 4, 20, 21, 22, 23, 24, 25, 26, 27, 28, 29, 30, 31, 32, 33, 34, 35, 36, 37, 38, 39, 40, 41, 42, 43, 44, 45, 46, 47, 48, 49, 50, 51, 52, 53, 54, 55] (by decide +kernel) (by decide +kernel)
set_option maxRecDepth 20000 in
theorem gX11_laySmoke_X11_otherEnd : GoodIn wsX11_laySmoke (wsV RX11 138 RX11 yX11_otherEnd wsX11_otherEnd) := goodIn_app (goodIn_of _ (by decide +kernel)) ggX11_laySmoke_X11_otherEnd
theorem dX11_laySmoke_0 : decode cX11_laySmoke 0 = .ok (.iconst 0, 1) := by decide +kernel
theorem dX11_laySmoke_1 : decode cX11_laySmoke 1 = .ok (.istore_n 2, 1) := by decide +kernel
theorem dX11_laySmoke_2 : decode cX11_laySmoke 2 = .ok (.iload_n 2, 1) := by decide +kernel
theorem dX11_laySmoke_3 : decode cX11_laySmoke 3 = .ok (.bipush 7, 2) := by decide +kernel
theorem dX11_laySmoke_5 : decode cX11_laySmoke 5 = .ok (.if_icmp .ge 26, 3) := by decide +kernel
theorem dX11_laySmoke_8 : decode cX11_laySmoke 8 = .ok (.aload_n 0, 1) := by decide +kernel
theorem dX11_laySmoke_9 : decode cX11_laySmoke 9 = .ok (.getfield 37, 3) := by decide +kernel
theorem dX11_laySmoke_12 : decode cX11_laySmoke 12 = .ok (.iload_n 2, 1) := by decide +kernel
theorem dX11_laySmoke_13 : decode cX11_laySmoke 13 = .ok (.iload_n 2, 1) := by decide +kernel
theorem dX11_laySmoke_14 : decode cX11_laySmoke 14 = .ok (.iload_n 1, 1) := by decide +kernel
theorem dX11_laySmoke_15 : decode cX11_laySmoke 15 = .ok (.if_icmp .ne 7, 3) := by decide +kernel
theorem dX11_laySmoke_18 : decode cX11_laySmoke 18 = .ok (.iconst 0, 1) := by decide +kernel
theorem dX11_laySmoke_19 : decode cX11_laySmoke 19 = .ok (.goto 5, 3) := by decide +kernel
theorem dX11_laySmoke_22 : decode cX11_laySmoke 22 = .ok (.ldc 123, 2) := by decide +kernel
theorem dX11_laySmoke_24 : decode cX11_laySmoke 24 = .ok (.iastore, 1) := by decide +kernel
theorem dX11_laySmoke_25 : decode cX11_laySmoke 25 = .ok (.iinc 2 1, 3) := by decide +kernel
theorem dX11_laySmoke_28 : decode cX11_laySmoke 28 = .ok (.goto (-26), 3) := by decide +kernel
theorem dX11_laySmoke_31 : decode cX11_laySmoke 31 = .ok (.iconst 0, 1) := by decide +kernel
theorem dX11_laySmoke_32 : decode cX11_laySmoke 32 = .ok (.istore_n 2, 1) := by decide +kernel
theorem dX11_laySmoke_33 : decode cX11_laySmoke 33 = .ok (.iload_n 2, 1) := by decide +kernel
theorem dX11_laySmoke_34 : decode cX11_laySmoke 34 = .ok (.bipush 7, 2) := by decide +kernel
theorem dX11_laySmoke_36 : decode cX11_laySmoke 36 = .ok (.if_icmp .ge 94, 3) := by decide +kernel
theorem dX11_laySmoke_39 : decode cX11_laySmoke 39 = .ok (.iconst 0, 1) := by decide +kernel
theorem dX11_laySmoke_40 : decode cX11_laySmoke 40 = .ok (.istore_n 3, 1) := by decide +kernel
theorem dX11_laySmoke_41 : decode cX11_laySmoke 41 = .ok (.iload_n 3, 1) := by decide +kernel
theorem dX11_laySmoke_42 : decode cX11_laySmoke 42 = .ok (.aload_n 0, 1) := by decide +kernel
theorem dX11_laySmoke_43 : decode cX11_laySmoke 43 = .ok (.getfield 101, 3) := by decide +kernel
theorem dX11_laySmoke_46 : decode cX11_laySmoke 46 = .ok (.if_icmp .ge 78, 3) := by decide +kernel
theorem dX11_laySmoke_49 : decode cX11_laySmoke 49 = .ok (.aload_n 0, 1) := by decide +kernel
theorem dX11_laySmoke_50 : decode cX11_laySmoke 50 = .ok (.iload_n 3, 1) := by decide +kernel
theorem dX11_laySmoke_51 : decode cX11_laySmoke 51 = .ok (.invokevirtual 142, 3) := by decide +kernel
theorem dX11_laySmoke_54 : decode cX11_laySmoke 54 = .ok (.istore 4, 2) := by decide +kernel
theorem dX11_laySmoke_56 : decode cX11_laySmoke 56 = .ok (.iload 4, 2) := by decide +kernel
theorem dX11_laySmoke_58 : decode cX11_laySmoke 58 = .ok (.iconst (-1), 1) := by decide +kernel
theorem dX11_laySmoke_59 : decode cX11_laySmoke 59 = .ok (.if_icmp .eq 59, 3) := by decide +kernel
theorem dX11_laySmoke_62 : decode cX11_laySmoke 62 = .ok (.aload_n 0, 1) := by decide +kernel
theorem dX11_laySmoke_63 : decode cX11_laySmoke 63 = .ok (.getfield 37, 3) := by decide +kernel
theorem dX11_laySmoke_66 : decode cX11_laySmoke 66 = .ok (.aload_n 0, 1) := by decide +kernel
theorem dX11_laySmoke_67 : decode cX11_laySmoke 67 = .ok (.iload_n 3, 1) := by decide +kernel
theorem dX11_laySmoke_68 : decode cX11_laySmoke 68 = .ok (.iload 4, 2) := by decide +kernel
theorem dX11_laySmoke_70 : decode cX11_laySmoke 70 = .ok (.invokevirtual 138, 3) := by decide +kernel
theorem dX11_laySmoke_73 : decode cX11_laySmoke 73 = .ok (.iaload, 1) := by decide +kernel
theorem dX11_laySmoke_74 : decode cX11_laySmoke 74 = .ok (.aload_n 0, 1) := by decide +kernel
theorem dX11_laySmoke_75 : decode cX11_laySmoke 75 = .ok (.getfield 19, 3) := by decide +kernel
theorem dX11_laySmoke_78 : decode cX11_laySmoke 78 = .ok (.iconst 4, 1) := by decide +kernel
theorem dX11_laySmoke_79 : decode cX11_laySmoke 79 = .ok (.iload_n 3, 1) := by decide +kernel
theorem dX11_laySmoke_80 : decode cX11_laySmoke 80 = .ok (.imul, 1) := by decide +kernel
theorem dX11_laySmoke_81 : decode cX11_laySmoke 81 = .ok (.iconst 2, 1) := by decide +kernel
theorem dX11_laySmoke_82 : decode cX11_laySmoke 82 = .ok (.iadd, 1) := by decide +kernel
theorem dX11_laySmoke_83 : decode cX11_laySmoke 83 = .ok (.iaload, 1) := by decide +kernel
theorem dX11_laySmoke_84 : decode cX11_laySmoke 84 = .ok (.iadd, 1) := by decide +kernel
theorem dX11_laySmoke_85 : decode cX11_laySmoke 85 = .ok (.istore 5, 2) := by decide +kernel
theorem dX11_laySmoke_87 : decode cX11_laySmoke 87 = .ok (.aload_n 0, 1) := by decide +kernel
theorem dX11_laySmoke_88 : decode cX11_laySmoke 88 = .ok (.getfield 37, 3) := by decide +kernel
theorem dX11_laySmoke_91 : decode cX11_laySmoke 91 = .ok (.iload 4, 2) := by decide +kernel
theorem dX11_laySmoke_93 : decode cX11_laySmoke 93 = .ok (.iload 5, 2) := by decide +kernel
theorem dX11_laySmoke_95 : decode cX11_laySmoke 95 = .ok (.aload_n 0, 1) := by decide +kernel
theorem dX11_laySmoke_96 : decode cX11_laySmoke 96 = .ok (.getfield 37, 3) := by decide +kernel
theorem dX11_laySmoke_99 : decode cX11_laySmoke 99 = .ok (.iload 4, 2) := by decide +kernel
theorem dX11_laySmoke_101 : decode cX11_laySmoke 101 = .ok (.iaload, 1) := by decide +kernel
theorem dX11_laySmoke_102 : decode cX11_laySmoke 102 = .ok (.if_icmp .ge 8, 3) := by decide +kernel
theorem dX11_laySmoke_105 : decode cX11_laySmoke 105 = .ok (.iload 5, 2) := by decide +kernel
theorem dX11_laySmoke_107 : decode cX11_laySmoke 107 = .ok (.goto 10, 3) := by decide +kernel
theorem dX11_laySmoke_110 : decode cX11_laySmoke 110 = .ok (.aload_n 0, 1) := by decide +kernel
theorem dX11_laySmoke_111 : decode cX11_laySmoke 111 = .ok (.getfield 37, 3) := by decide +kernel
theorem dX11_laySmoke_114 : decode cX11_laySmoke 114 = .ok (.iload 4, 2) := by decide +kernel
theorem dX11_laySmoke_116 : decode cX11_laySmoke 116 = .ok (.iaload, 1) := by decide +kernel
theorem dX11_laySmoke_117 : decode cX11_laySmoke 117 = .ok (.iastore, 1) := by decide +kernel
theorem dX11_laySmoke_118 : decode cX11_laySmoke 118 = .ok (.iinc 3 1, 3) := by decide +kernel
theorem dX11_laySmoke_121 : decode cX11_laySmoke 121 = .ok (.goto (-80), 3) := by decide +kernel
theorem dX11_laySmoke_124 : decode cX11_laySmoke 124 = .ok (.iinc 2 1, 3) := by decide +kernel
theorem dX11_laySmoke_127 : decode cX11_laySmoke 127 = .ok (.goto (-94), 3) := by decide +kernel
theorem dX11_laySmoke_130 : decode cX11_laySmoke 130 = .ok (.return_, 1) := by decide +kernel
set_option maxRecDepth 20000 in
theorem ggX11_smeltOf_X11_layHeights : GoodIn wsX11_smeltOf wsX11_layHeights := goodIn_r _ [7, 8, 9, 10, 11, 6, 12, 13, 2, 14, 15, 16, 17, 18, 19, 20, 21, 22, 23, 24, 25, 26, 27, 28, 29, 30, 43, 44, 45, 46, 47, 48, 49, 50, 51, 52, 53, 54, 55, 56, 57, 58, 59, 60, 61, 62, 63, 64, 65, 66, 67, 68, 69, 70, 71, 72, 73, 74, 75, 76, 77, 78] (by decide +kernel) (by decide +kernel)
set_option maxRecDepth 20000 in
theorem gX11_smeltOf_X11_layHeights : GoodIn wsX11_smeltOf (wsV RX11 145 RX11 yX11_layHeights wsX11_layHeights) := goodIn_app (goodIn_of _ (by decide +kernel)) ggX11_smeltOf_X11_layHeights
set_option maxRecDepth 20000 in
theorem ggX11_smeltOf_X11_laySmoke : GoodIn wsX11_smeltOf wsX11_laySmoke := goodIn_r _ [34, 1, 2, 24, 25, 35, 36, 37, 6, 38, 8, 26, 27, 28, 29, 30, 39, 40, 41, 42, 43, 44, 45, 46, 47, 48, 49, 50, 51, 52, 53, 54, 55, 56, 57, 58, 59, 60, 61, 62, 63, 64, 65, 66, 67, 68, 69, 70, 71, 72, 73, 74, 75, 76, 77, 78] (by decide +kernel) (by decide +kernel)
set_option maxRecDepth 20000 in
theorem gX11_smeltOf_X11_laySmoke : GoodIn wsX11_smeltOf (wsV RX11 181 RX11 yX11_laySmoke wsX11_laySmoke) := goodIn_app (goodIn_of _ (by decide +kernel)) ggX11_smeltOf_X11_laySmoke
theorem dX11_smeltOf_0 : decode cX11_smeltOf 0 = .ok (.aload_n 0, 1) := by decide +kernel
theorem dX11_smeltOf_1 : decode cX11_smeltOf 1 = .ok (.invokevirtual 145, 3) := by decide +kernel
theorem dX11_smeltOf_4 : decode cX11_smeltOf 4 = .ok (.aload_n 0, 1) := by decide +kernel
theorem dX11_smeltOf_5 : decode cX11_smeltOf 5 = .ok (.iload_n 1, 1) := by decide +kernel
theorem dX11_smeltOf_6 : decode cX11_smeltOf 6 = .ok (.invokevirtual 181, 3) := by decide +kernel
theorem dX11_smeltOf_9 : decode cX11_smeltOf 9 = .ok (.aload_n 0, 1) := by decide +kernel
theorem dX11_smeltOf_10 : decode cX11_smeltOf 10 = .ok (.getfield 37, 3) := by decide +kernel
theorem dX11_smeltOf_13 : decode cX11_smeltOf 13 = .ok (.iload_n 2, 1) := by decide +kernel
theorem dX11_smeltOf_14 : decode cX11_smeltOf 14 = .ok (.iaload, 1) := by decide +kernel
theorem dX11_smeltOf_15 : decode cX11_smeltOf 15 = .ok (.ldc 123, 2) := by decide +kernel
theorem dX11_smeltOf_17 : decode cX11_smeltOf 17 = .ok (.if_icmp .ge 12, 3) := by decide +kernel
theorem dX11_smeltOf_20 : decode cX11_smeltOf 20 = .ok (.aload_n 0, 1) := by decide +kernel
theorem dX11_smeltOf_21 : decode cX11_smeltOf 21 = .ok (.getfield 37, 3) := by decide +kernel
theorem dX11_smeltOf_24 : decode cX11_smeltOf 24 = .ok (.iload_n 2, 1) := by decide +kernel
theorem dX11_smeltOf_25 : decode cX11_smeltOf 25 = .ok (.iaload, 1) := by decide +kernel
theorem dX11_smeltOf_26 : decode cX11_smeltOf 26 = .ok (.goto 4, 3) := by decide +kernel
theorem dX11_smeltOf_29 : decode cX11_smeltOf 29 = .ok (.iconst (-1), 1) := by decide +kernel
theorem dX11_smeltOf_30 : decode cX11_smeltOf 30 = .ok (.ireturn, 1) := by decide +kernel
set_option maxRecDepth 20000 in
theorem ggX11_smelt_X11_lacks : GoodIn wsX11_smelt wsX11_lacks := goodIn_r _ [5, 6, 59, 60, 61, 62, 63, 64, 65, 66, 67, 68, 69, 70, 71, 72, 73, 74, 75, 76, 77, 78, 79, 80, 81, 82, 83, 84, 85, 86, 87, 88, 89, 90, 91, 92, 93, 94] (by decide +kernel) (by decide +kernel)
set_option maxRecDepth 20000 in
theorem gX11_smelt_X11_lacks : GoodIn wsX11_smelt (wsV RX11 104 RX11 yX11_lacks wsX11_lacks) := goodIn_app (goodIn_of _ (by decide +kernel)) ggX11_smelt_X11_lacks
set_option maxRecDepth 20000 in
theorem ggX11_smelt_X11_isKnot : GoodIn wsX11_smelt wsX11_isKnot := goodIn_r _ [10, 11, 1, 2, 3, 4, 5, 6, 12, 13, 14, 59, 60, 61, 62, 63, 64, 65, 66, 67, 68, 69, 70, 71, 72, 73, 74, 75, 76, 77, 78, 79, 80, 81, 82, 83, 84, 85, 86, 87, 88, 89, 90, 91, 92, 93, 94] (by decide +kernel) (by decide +kernel)
set_option maxRecDepth 20000 in
theorem gX11_smelt_X11_isKnot : GoodIn wsX11_smelt (wsV RX11 157 RX11 yX11_isKnot wsX11_isKnot) := goodIn_app (goodIn_of _ (by decide +kernel)) ggX11_smelt_X11_isKnot
set_option maxRecDepth 20000 in
theorem ggX11_smelt_X11_smeltOf : GoodIn wsX11_smelt wsX11_smeltOf := goodIn_r _ [18, 19, 20, 21, 22, 23, 4, 24, 25, 26, 27, 28, 29, 30, 31, 32, 33, 34, 35, 36, 37, 38, 39, 40, 6, 41, 42, 43, 44, 45, 46, 47, 48, 49, 50, 51, 52, 53, 54, 55, 56, 57, 58, 59, 60, 61, 62, 63, 64, 65, 66, 67, 68, 69, 70, 71, 72, 73, 74, 75, 76, 77, 78, 79, 80, 81, 82, 83, 84, 85, 86, 87, 88, 89, 90, 91, 92, 93, 94] (by decide +kernel) (by decide +kernel)
set_option maxRecDepth 20000 in
theorem gX11_smelt_X11_smeltOf : GoodIn wsX11_smelt (wsV RX11 184 RX11 yX11_smeltOf wsX11_smeltOf) := goodIn_app (goodIn_of _ (by decide +kernel)) ggX11_smelt_X11_smeltOf
theorem dX11_smelt_0 : decode cX11_smelt 0 = .ok (.aload_n 0, 1) := by decide +kernel
theorem dX11_smelt_1 : decode cX11_smelt 1 = .ok (.invokevirtual 104, 3) := by decide +kernel
theorem dX11_smelt_4 : decode cX11_smelt 4 = .ok (.ifCond .eq 6, 3) := by decide +kernel
theorem dX11_smelt_7 : decode cX11_smelt 7 = .ok (.bipush (-103), 2) := by decide +kernel
theorem dX11_smelt_9 : decode cX11_smelt 9 = .ok (.ireturn, 1) := by decide +kernel
theorem dX11_smelt_10 : decode cX11_smelt 10 = .ok (.aload_n 0, 1) := by decide +kernel
theorem dX11_smelt_11 : decode cX11_smelt 11 = .ok (.iload_n 1, 1) := by decide +kernel
theorem dX11_smelt_12 : decode cX11_smelt 12 = .ok (.invokevirtual 157, 3) := by decide +kernel
theorem dX11_smelt_15 : decode cX11_smelt 15 = .ok (.ifCond .eq 20, 3) := by decide +kernel
theorem dX11_smelt_18 : decode cX11_smelt 18 = .ok (.aload_n 0, 1) := by decide +kernel
theorem dX11_smelt_19 : decode cX11_smelt 19 = .ok (.iload_n 2, 1) := by decide +kernel
theorem dX11_smelt_20 : decode cX11_smelt 20 = .ok (.invokevirtual 157, 3) := by decide +kernel
theorem dX11_smelt_23 : decode cX11_smelt 23 = .ok (.ifCond .eq 12, 3) := by decide +kernel
theorem dX11_smelt_26 : decode cX11_smelt 26 = .ok (.aload_n 0, 1) := by decide +kernel
theorem dX11_smelt_27 : decode cX11_smelt 27 = .ok (.iload_n 1, 1) := by decide +kernel
theorem dX11_smelt_28 : decode cX11_smelt 28 = .ok (.iload_n 2, 1) := by decide +kernel
theorem dX11_smelt_29 : decode cX11_smelt 29 = .ok (.invokevirtual 184, 3) := by decide +kernel
theorem dX11_smelt_32 : decode cX11_smelt 32 = .ok (.goto 5, 3) := by decide +kernel
theorem dX11_smelt_35 : decode cX11_smelt 35 = .ok (.bipush (-101), 2) := by decide +kernel
theorem dX11_smelt_37 : decode cX11_smelt 37 = .ok (.ireturn, 1) := by decide +kernel
theorem dX11_ones_0 : decode cX11_ones 0 = .ok (.iconst 0, 1) := by decide +kernel
theorem dX11_ones_1 : decode cX11_ones 1 = .ok (.istore_n 1, 1) := by decide +kernel
theorem dX11_ones_2 : decode cX11_ones 2 = .ok (.iconst 0, 1) := by decide +kernel
theorem dX11_ones_3 : decode cX11_ones 3 = .ok (.istore_n 2, 1) := by decide +kernel
theorem dX11_ones_4 : decode cX11_ones 4 = .ok (.iload_n 2, 1) := by decide +kernel
theorem dX11_ones_5 : decode cX11_ones 5 = .ok (.bipush 10, 2) := by decide +kernel
theorem dX11_ones_7 : decode cX11_ones 7 = .ok (.if_icmp .ge 17, 3) := by decide +kernel
theorem dX11_ones_10 : decode cX11_ones 10 = .ok (.iload_n 1, 1) := by decide +kernel
theorem dX11_ones_11 : decode cX11_ones 11 = .ok (.iload_n 0, 1) := by decide +kernel
theorem dX11_ones_12 : decode cX11_ones 12 = .ok (.iload_n 2, 1) := by decide +kernel
theorem dX11_ones_13 : decode cX11_ones 13 = .ok (.ishr, 1) := by decide +kernel
theorem dX11_ones_14 : decode cX11_ones 14 = .ok (.iconst 1, 1) := by decide +kernel
theorem dX11_ones_15 : decode cX11_ones 15 = .ok (.iand, 1) := by decide +kernel
theorem dX11_ones_16 : decode cX11_ones 16 = .ok (.iadd, 1) := by decide +kernel
theorem dX11_ones_17 : decode cX11_ones 17 = .ok (.istore_n 1, 1) := by decide +kernel
theorem dX11_ones_18 : decode cX11_ones 18 = .ok (.iinc 2 1, 3) := by decide +kernel
theorem dX11_ones_21 : decode cX11_ones 21 = .ok (.goto (-17), 3) := by decide +kernel
theorem dX11_ones_24 : decode cX11_ones 24 = .ok (.iload_n 1, 1) := by decide +kernel
theorem dX11_ones_25 : decode cX11_ones 25 = .ok (.ireturn, 1) := by decide +kernel
set_option maxRecDepth 20000 in
theorem ggX11_allBreathe_X11_layHeights : GoodIn wsX11_allBreathe wsX11_layHeights := goodIn_r _ [5, 6, 7, 8, 9, 4, 10, 11, 12, 13, 14, 15, 16, 17, 18, 19, 20, 21, 22, 23, 24, 25, 26, 27, 28, 29, 42, 43, 44, 45, 46, 47, 48, 49, 50, 51, 52, 53, 54, 55, 56, 57, 58, 59, 60, 61, 62, 63, 64, 65, 66, 67, 68, 69, 70, 71, 72, 73, 74, 75, 76, 77] (by decide +kernel) (by decide +kernel)
set_option maxRecDepth 20000 in
theorem gX11_allBreathe_X11_layHeights : GoodIn wsX11_allBreathe (wsV RX11 145 RX11 yX11_layHeights wsX11_layHeights) := goodIn_app (goodIn_of _ (by decide +kernel)) ggX11_allBreathe_X11_layHeights
set_option maxRecDepth 20000 in
theorem ggX11_allBreathe_X11_breathes : GoodIn wsX11_allBreathe wsX11_breathes := goodIn_r _ [33, 23, 34, 35, 36, 4, 37, 24, 38, 39, 40, 41, 6, 25, 26, 27, 28, 29, 42, 43, 44, 45, 46, 47, 48, 49, 50, 51, 52, 53, 54, 55, 56, 57, 58, 59, 60, 61, 62, 63, 64, 65, 66, 67, 68, 69, 70, 71, 72, 73, 74, 75, 76, 77] (by decide +kernel) (by decide +kernel)
set_option maxRecDepth 20000 in
theorem gX11_allBreathe_X11_breathes : GoodIn wsX11_allBreathe (wsV RX11 154 RX11 yX11_breathes wsX11_breathes) := goodIn_app (goodIn_of _ (by decide +kernel)) ggX11_allBreathe_X11_breathes
theorem dX11_allBreathe_0 : decode cX11_allBreathe 0 = .ok (.aload_n 0, 1) := by decide +kernel
theorem dX11_allBreathe_1 : decode cX11_allBreathe 1 = .ok (.invokevirtual 145, 3) := by decide +kernel
theorem dX11_allBreathe_4 : decode cX11_allBreathe 4 = .ok (.iconst 1, 1) := by decide +kernel
theorem dX11_allBreathe_5 : decode cX11_allBreathe 5 = .ok (.istore_n 2, 1) := by decide +kernel
theorem dX11_allBreathe_6 : decode cX11_allBreathe 6 = .ok (.iconst 0, 1) := by decide +kernel
theorem dX11_allBreathe_7 : decode cX11_allBreathe 7 = .ok (.istore_n 3, 1) := by decide +kernel
theorem dX11_allBreathe_8 : decode cX11_allBreathe 8 = .ok (.iload_n 3, 1) := by decide +kernel
theorem dX11_allBreathe_9 : decode cX11_allBreathe 9 = .ok (.bipush 7, 2) := by decide +kernel
theorem dX11_allBreathe_11 : decode cX11_allBreathe 11 = .ok (.if_icmp .ge 35, 3) := by decide +kernel
theorem dX11_allBreathe_14 : decode cX11_allBreathe 14 = .ok (.iload_n 2, 1) := by decide +kernel
theorem dX11_allBreathe_15 : decode cX11_allBreathe 15 = .ok (.ifCond .eq 23, 3) := by decide +kernel
theorem dX11_allBreathe_18 : decode cX11_allBreathe 18 = .ok (.iload_n 1, 1) := by decide +kernel
theorem dX11_allBreathe_19 : decode cX11_allBreathe 19 = .ok (.iload_n 3, 1) := by decide +kernel
theorem dX11_allBreathe_20 : decode cX11_allBreathe 20 = .ok (.ishr, 1) := by decide +kernel
theorem dX11_allBreathe_21 : decode cX11_allBreathe 21 = .ok (.iconst 1, 1) := by decide +kernel
theorem dX11_allBreathe_22 : decode cX11_allBreathe 22 = .ok (.iand, 1) := by decide +kernel
theorem dX11_allBreathe_23 : decode cX11_allBreathe 23 = .ok (.ifCond .eq 11, 3) := by decide +kernel
theorem dX11_allBreathe_26 : decode cX11_allBreathe 26 = .ok (.aload_n 0, 1) := by decide +kernel
theorem dX11_allBreathe_27 : decode cX11_allBreathe 27 = .ok (.iload_n 3, 1) := by decide +kernel
theorem dX11_allBreathe_28 : decode cX11_allBreathe 28 = .ok (.invokevirtual 154, 3) := by decide +kernel
theorem dX11_allBreathe_31 : decode cX11_allBreathe 31 = .ok (.ifCond .eq 7, 3) := by decide +kernel
theorem dX11_allBreathe_34 : decode cX11_allBreathe 34 = .ok (.iconst 1, 1) := by decide +kernel
theorem dX11_allBreathe_35 : decode cX11_allBreathe 35 = .ok (.goto 4, 3) := by decide +kernel
theorem dX11_allBreathe_38 : decode cX11_allBreathe 38 = .ok (.iconst 0, 1) := by decide +kernel
theorem dX11_allBreathe_39 : decode cX11_allBreathe 39 = .ok (.istore_n 2, 1) := by decide +kernel
theorem dX11_allBreathe_40 : decode cX11_allBreathe 40 = .ok (.iinc 3 1, 3) := by decide +kernel
theorem dX11_allBreathe_43 : decode cX11_allBreathe 43 = .ok (.goto (-35), 3) := by decide +kernel
theorem dX11_allBreathe_46 : decode cX11_allBreathe 46 = .ok (.iload_n 2, 1) := by decide +kernel
theorem dX11_allBreathe_47 : decode cX11_allBreathe 47 = .ok (.ireturn, 1) := by decide +kernel
set_option maxRecDepth 20000 in
theorem ggX11_doors_X11_lacks : GoodIn wsX11_doors wsX11_lacks := goodIn_r _ [10, 4, 58, 59, 60, 61, 62, 63, 64, 65, 66, 67, 68, 69, 70, 71, 72, 73, 74, 75, 76, 77, 78, 79, 80, 81, 82, 83, 84, 85, 86, 87, 88, 89, 90, 91, 92, 93] (by decide +kernel) (by decide +kernel)
set_option maxRecDepth 20000 in
theorem gX11_doors_X11_lacks : GoodIn wsX11_doors (wsV RX11 104 RX11 yX11_lacks wsX11_lacks) := goodIn_app (goodIn_of _ (by decide +kernel)) ggX11_doors_X11_lacks
set_option maxRecDepth 20000 in
theorem ggX11_doors_X11_in : GoodIn wsX11_doors wsX11_in := goodIn_r _ [13] (by decide +kernel) (by decide +kernel)
set_option maxRecDepth 20000 in
theorem gX11_doors_X11_in : GoodIn wsX11_doors (va_wsS RX11 78 yX11_in wsX11_in) := goodIn_app (goodIn_of _ (by decide +kernel)) ggX11_doors_X11_in
set_option maxRecDepth 20000 in
theorem ggX11_doors_X11_ones : GoodIn wsX11_doors wsX11_ones := goodIn_r _ [16] (by decide +kernel) (by decide +kernel)
set_option maxRecDepth 20000 in
theorem gX11_doors_X11_ones : GoodIn wsX11_doors (va_wsS RX11 192 yX11_ones wsX11_ones) := goodIn_app (goodIn_of _ (by decide +kernel)) ggX11_doors_X11_ones
set_option maxRecDepth 20000 in
theorem ggX11_doors_X11_allBreathe : GoodIn wsX11_doors wsX11_allBreathe := goodIn_r _ [20, 21, 22, 23, 9, 24, 25, 26, 27, 28, 29, 30, 31, 32, 33, 34, 35, 36, 37, 38, 39, 40, 41, 4, 5, 42, 43, 44, 45, 3, 46, 47, 48, 49, 50, 51, 52, 53, 54, 55, 56, 57, 58, 59, 60, 61, 62, 63, 64, 65, 66, 67, 68, 69, 70, 71, 72, 73, 74, 75, 76, 77, 78, 79, 80, 81, 82, 83, 84, 85, 86, 87, 88, 89, 90, 91, 92, 93] (by decide +kernel) (by decide +kernel)
set_option maxRecDepth 20000 in
theorem gX11_doors_X11_allBreathe : GoodIn wsX11_doors (wsV RX11 195 RX11 yX11_allBreathe wsX11_allBreathe) := goodIn_app (goodIn_of _ (by decide +kernel)) ggX11_doors_X11_allBreathe
theorem dX11_doors_0 : decode cX11_doors 0 = .ok (.aload_n 0, 1) := by decide +kernel
theorem dX11_doors_1 : decode cX11_doors 1 = .ok (.invokevirtual 104, 3) := by decide +kernel
theorem dX11_doors_4 : decode cX11_doors 4 = .ok (.ifCond .eq 6, 3) := by decide +kernel
theorem dX11_doors_7 : decode cX11_doors 7 = .ok (.bipush (-103), 2) := by decide +kernel
theorem dX11_doors_9 : decode cX11_doors 9 = .ok (.ireturn, 1) := by decide +kernel
theorem dX11_doors_10 : decode cX11_doors 10 = .ok (.iload_n 1, 1) := by decide +kernel
theorem dX11_doors_11 : decode cX11_doors 11 = .ok (.i2l, 1) := by decide +kernel
theorem dX11_doors_12 : decode cX11_doors 12 = .ok (.lconst 0, 1) := by decide +kernel
theorem dX11_doors_13 : decode cX11_doors 13 = .ok (.ldc2_w 187, 3) := by decide +kernel
theorem dX11_doors_16 : decode cX11_doors 16 = .ok (.invokestatic 78, 3) := by decide +kernel
theorem dX11_doors_19 : decode cX11_doors 19 = .ok (.ifCond .eq 13, 3) := by decide +kernel
theorem dX11_doors_22 : decode cX11_doors 22 = .ok (.iload_n 2, 1) := by decide +kernel
theorem dX11_doors_23 : decode cX11_doors 23 = .ok (.i2l, 1) := by decide +kernel
theorem dX11_doors_24 : decode cX11_doors 24 = .ok (.lconst 0, 1) := by decide +kernel
theorem dX11_doors_25 : decode cX11_doors 25 = .ok (.lconst 1, 1) := by decide +kernel
theorem dX11_doors_26 : decode cX11_doors 26 = .ok (.invokestatic 78, 3) := by decide +kernel
theorem dX11_doors_29 : decode cX11_doors 29 = .ok (.ifCond .ne 6, 3) := by decide +kernel
theorem dX11_doors_32 : decode cX11_doors 32 = .ok (.bipush (-102), 2) := by decide +kernel
theorem dX11_doors_34 : decode cX11_doors 34 = .ok (.ireturn, 1) := by decide +kernel
theorem dX11_doors_35 : decode cX11_doors 35 = .ok (.aload_n 0, 1) := by decide +kernel
theorem dX11_doors_36 : decode cX11_doors 36 = .ok (.getfield 189, 3) := by decide +kernel
theorem dX11_doors_39 : decode cX11_doors 39 = .ok (.bipush 40, 2) := by decide +kernel
theorem dX11_doors_41 : decode cX11_doors 41 = .ok (.if_icmp .ne 6, 3) := by decide +kernel
theorem dX11_doors_44 : decode cX11_doors 44 = .ok (.bipush (-103), 2) := by decide +kernel
theorem dX11_doors_46 : decode cX11_doors 46 = .ok (.ireturn, 1) := by decide +kernel
theorem dX11_doors_47 : decode cX11_doors 47 = .ok (.aload_n 0, 1) := by decide +kernel
theorem dX11_doors_48 : decode cX11_doors 48 = .ok (.dup, 1) := by decide +kernel
theorem dX11_doors_49 : decode cX11_doors 49 = .ok (.getfield 189, 3) := by decide +kernel
theorem dX11_doors_52 : decode cX11_doors 52 = .ok (.iconst 1, 1) := by decide +kernel
theorem dX11_doors_53 : decode cX11_doors 53 = .ok (.iadd, 1) := by decide +kernel
theorem dX11_doors_54 : decode cX11_doors 54 = .ok (.putfield 189, 3) := by decide +kernel
theorem dX11_doors_57 : decode cX11_doors 57 = .ok (.aload_n 0, 1) := by decide +kernel
theorem dX11_doors_58 : decode cX11_doors 58 = .ok (.getfield 108, 3) := by decide +kernel
theorem dX11_doors_61 : decode cX11_doors 61 = .ok (.istore_n 3, 1) := by decide +kernel
theorem dX11_doors_62 : decode cX11_doors 62 = .ok (.iconst 0, 1) := by decide +kernel
theorem dX11_doors_63 : decode cX11_doors 63 = .ok (.istore 4, 2) := by decide +kernel
theorem dX11_doors_65 : decode cX11_doors 65 = .ok (.iconst 0, 1) := by decide +kernel
theorem dX11_doors_66 : decode cX11_doors 66 = .ok (.istore 5, 2) := by decide +kernel
theorem dX11_doors_68 : decode cX11_doors 68 = .ok (.iload 5, 2) := by decide +kernel
theorem dX11_doors_70 : decode cX11_doors 70 = .ok (.aload_n 0, 1) := by decide +kernel
theorem dX11_doors_71 : decode cX11_doors 71 = .ok (.getfield 101, 3) := by decide +kernel
theorem dX11_doors_74 : decode cX11_doors 74 = .ok (.if_icmp .ge 37, 3) := by decide +kernel
theorem dX11_doors_77 : decode cX11_doors 77 = .ok (.iload 4, 2) := by decide +kernel
theorem dX11_doors_79 : decode cX11_doors 79 = .ok (.aload_n 0, 1) := by decide +kernel
theorem dX11_doors_80 : decode cX11_doors 80 = .ok (.getfield 19, 3) := by decide +kernel
theorem dX11_doors_83 : decode cX11_doors 83 = .ok (.iconst 4, 1) := by decide +kernel
theorem dX11_doors_84 : decode cX11_doors 84 = .ok (.iload 5, 2) := by decide +kernel
theorem dX11_doors_86 : decode cX11_doors 86 = .ok (.imul, 1) := by decide +kernel
theorem dX11_doors_87 : decode cX11_doors 87 = .ok (.iconst 3, 1) := by decide +kernel
theorem dX11_doors_88 : decode cX11_doors 88 = .ok (.iadd, 1) := by decide +kernel
theorem dX11_doors_89 : decode cX11_doors 89 = .ok (.iaload, 1) := by decide +kernel
theorem dX11_doors_90 : decode cX11_doors 90 = .ok (.iconst 1, 1) := by decide +kernel
theorem dX11_doors_91 : decode cX11_doors 91 = .ok (.if_icmp .ne 10, 3) := by decide +kernel
theorem dX11_doors_94 : decode cX11_doors 94 = .ok (.iconst 1, 1) := by decide +kernel
theorem dX11_doors_95 : decode cX11_doors 95 = .ok (.iload 5, 2) := by decide +kernel
theorem dX11_doors_97 : decode cX11_doors 97 = .ok (.ishl, 1) := by decide +kernel
theorem dX11_doors_98 : decode cX11_doors 98 = .ok (.goto 4, 3) := by decide +kernel
theorem dX11_doors_101 : decode cX11_doors 101 = .ok (.iconst 0, 1) := by decide +kernel
theorem dX11_doors_102 : decode cX11_doors 102 = .ok (.ior, 1) := by decide +kernel
theorem dX11_doors_103 : decode cX11_doors 103 = .ok (.istore 4, 2) := by decide +kernel
theorem dX11_doors_105 : decode cX11_doors 105 = .ok (.iinc 5 1, 3) := by decide +kernel
theorem dX11_doors_108 : decode cX11_doors 108 = .ok (.goto (-40), 3) := by decide +kernel
theorem dX11_doors_111 : decode cX11_doors 111 = .ok (.iconst (-1), 1) := by decide +kernel
theorem dX11_doors_112 : decode cX11_doors 112 = .ok (.istore 5, 2) := by decide +kernel
theorem dX11_doors_114 : decode cX11_doors 114 = .ok (.iconst 0, 1) := by decide +kernel
theorem dX11_doors_115 : decode cX11_doors 115 = .ok (.istore 6, 2) := by decide +kernel
theorem dX11_doors_117 : decode cX11_doors 117 = .ok (.iload 6, 2) := by decide +kernel
theorem dX11_doors_119 : decode cX11_doors 119 = .ok (.iconst 1, 1) := by decide +kernel
theorem dX11_doors_120 : decode cX11_doors 120 = .ok (.aload_n 0, 1) := by decide +kernel
theorem dX11_doors_121 : decode cX11_doors 121 = .ok (.getfield 101, 3) := by decide +kernel
theorem dX11_doors_124 : decode cX11_doors 124 = .ok (.ishl, 1) := by decide +kernel
theorem dX11_doors_125 : decode cX11_doors 125 = .ok (.if_icmp .ge 63, 3) := by decide +kernel
theorem dX11_doors_128 : decode cX11_doors 128 = .ok (.iload 6, 2) := by decide +kernel
theorem dX11_doors_130 : decode cX11_doors 130 = .ok (.iload 4, 2) := by decide +kernel
theorem dX11_doors_132 : decode cX11_doors 132 = .ok (.iconst (-1), 1) := by decide +kernel
theorem dX11_doors_133 : decode cX11_doors 133 = .ok (.ixor, 1) := by decide +kernel
theorem dX11_doors_134 : decode cX11_doors 134 = .ok (.iand, 1) := by decide +kernel
theorem dX11_doors_135 : decode cX11_doors 135 = .ok (.ifCond .ne 47, 3) := by decide +kernel
theorem dX11_doors_138 : decode cX11_doors 138 = .ok (.iload 5, 2) := by decide +kernel
theorem dX11_doors_140 : decode cX11_doors 140 = .ok (.iconst (-1), 1) := by decide +kernel
theorem dX11_doors_141 : decode cX11_doors 141 = .ok (.if_icmp .eq 16, 3) := by decide +kernel
theorem dX11_doors_144 : decode cX11_doors 144 = .ok (.iload 6, 2) := by decide +kernel
theorem dX11_doors_146 : decode cX11_doors 146 = .ok (.invokestatic 192, 3) := by decide +kernel
theorem dX11_doors_149 : decode cX11_doors 149 = .ok (.iload 5, 2) := by decide +kernel
theorem dX11_doors_151 : decode cX11_doors 151 = .ok (.invokestatic 192, 3) := by decide +kernel
theorem dX11_doors_154 : decode cX11_doors 154 = .ok (.if_icmp .ge 28, 3) := by decide +kernel
theorem dX11_doors_157 : decode cX11_doors 157 = .ok (.aload_n 0, 1) := by decide +kernel
theorem dX11_doors_158 : decode cX11_doors 158 = .ok (.iload_n 3, 1) := by decide +kernel
theorem dX11_doors_159 : decode cX11_doors 159 = .ok (.iload 6, 2) := by decide +kernel
theorem dX11_doors_161 : decode cX11_doors 161 = .ok (.ixor, 1) := by decide +kernel
theorem dX11_doors_162 : decode cX11_doors 162 = .ok (.putfield 108, 3) := by decide +kernel
theorem dX11_doors_165 : decode cX11_doors 165 = .ok (.aload_n 0, 1) := by decide +kernel
theorem dX11_doors_166 : decode cX11_doors 166 = .ok (.iload_n 1, 1) := by decide +kernel
theorem dX11_doors_167 : decode cX11_doors 167 = .ok (.invokevirtual 195, 3) := by decide +kernel
theorem dX11_doors_170 : decode cX11_doors 170 = .ok (.ifCond .eq 8, 3) := by decide +kernel
theorem dX11_doors_173 : decode cX11_doors 173 = .ok (.iload 6, 2) := by decide +kernel
theorem dX11_doors_175 : decode cX11_doors 175 = .ok (.goto 5, 3) := by decide +kernel
theorem dX11_doors_178 : decode cX11_doors 178 = .ok (.iload 5, 2) := by decide +kernel
theorem dX11_doors_180 : decode cX11_doors 180 = .ok (.istore 5, 2) := by decide +kernel
theorem dX11_doors_182 : decode cX11_doors 182 = .ok (.iinc 6 1, 3) := by decide +kernel
theorem dX11_doors_185 : decode cX11_doors 185 = .ok (.goto (-68), 3) := by decide +kernel
theorem dX11_doors_188 : decode cX11_doors 188 = .ok (.aload_n 0, 1) := by decide +kernel
theorem dX11_doors_189 : decode cX11_doors 189 = .ok (.iload_n 3, 1) := by decide +kernel
theorem dX11_doors_190 : decode cX11_doors 190 = .ok (.putfield 108, 3) := by decide +kernel
theorem dX11_doors_193 : decode cX11_doors 193 = .ok (.iload 5, 2) := by decide +kernel
theorem dX11_doors_195 : decode cX11_doors 195 = .ok (.iconst (-1), 1) := by decide +kernel
theorem dX11_doors_196 : decode cX11_doors 196 = .ok (.if_icmp .eq 8, 3) := by decide +kernel
theorem dX11_doors_199 : decode cX11_doors 199 = .ok (.iload_n 2, 1) := by decide +kernel
theorem dX11_doors_200 : decode cX11_doors 200 = .ok (.iconst 1, 1) := by decide +kernel
theorem dX11_doors_201 : decode cX11_doors 201 = .ok (.if_icmp .ne 8, 3) := by decide +kernel
theorem dX11_doors_204 : decode cX11_doors 204 = .ok (.iload 5, 2) := by decide +kernel
theorem dX11_doors_206 : decode cX11_doors 206 = .ok (.goto 8, 3) := by decide +kernel
theorem dX11_doors_209 : decode cX11_doors 209 = .ok (.iload 5, 2) := by decide +kernel
theorem dX11_doors_211 : decode cX11_doors 211 = .ok (.invokestatic 192, 3) := by decide +kernel
theorem dX11_doors_214 : decode cX11_doors 214 = .ok (.ireturn, 1) := by decide +kernel
set_option maxRecDepth 20000 in
theorem ggX11_wayOutOf_X11_layHeights : GoodIn wsX11_wayOutOf wsX11_layHeights := goodIn_r _ [7, 8, 9, 10, 11, 6, 12, 1, 13, 14, 15, 16, 17, 18, 19, 20, 21, 22, 23, 2, 24, 25, 26, 27, 28, 29, 38, 39, 40, 41, 42, 43, 44, 45, 46, 47, 48, 49, 50, 51, 52, 53, 54, 55, 56, 57, 58, 59, 60, 61, 62, 63, 64, 65, 66, 67, 68, 69, 70, 71, 72, 73] (by decide +kernel) (by decide +kernel)
set_option maxRecDepth 20000 in
theorem gX11_wayOutOf_X11_layHeights : GoodIn wsX11_wayOutOf (wsV RX11 145 RX11 yX11_layHeights wsX11_layHeights) := goodIn_app (goodIn_of _ (by decide +kernel)) ggX11_wayOutOf_X11_layHeights
set_option maxRecDepth 20000 in
theorem ggX11_wayOutOf_X11_into : GoodIn wsX11_wayOutOf wsX11_into := goodIn_r _ [33, 24, 8, 25, 26, 27, 6, 28, 29, 38, 39, 40, 41, 42, 43, 44, 45, 46, 47, 48, 49, 50, 51, 52, 53, 54, 55, 56, 57, 58, 59, 60, 61, 62, 63, 64, 65, 66, 67, 68, 69, 70, 71, 72, 73] (by decide +kernel) (by decide +kernel)
set_option maxRecDepth 20000 in
theorem gX11_wayOutOf_X11_into : GoodIn wsX11_wayOutOf (wsV RX11 142 RX11 yX11_into wsX11_into) := goodIn_app (goodIn_of _ (by decide +kernel)) ggX11_wayOutOf_X11_into
set_option maxRecDepth 20000 in
theorem ggX11_wayOutOf_X11_otherEnd : GoodIn wsX11_wayOutOf wsX11_otherEnd := goodIn_r _ [37, 24, 38, 39, 40, 41, 42, 43, 44, 45, 46, 47, 48, 49, 50, 51, 52, 53, 54, 55, 56, 57, 58, 59, 60, 61, 62, 63, 64, 65, 66, 67, 68, 69, 70, 71, 72, 73] (by decide +kernel) (by decide +kernel)
set_option maxRecDepth 20000 in
theorem gX11_wayOutOf_X11_otherEnd : GoodIn wsX11_wayOutOf (wsV RX11 138 RX11 yX11_otherEnd wsX11_otherEnd) := goodIn_app (goodIn_of _ (by decide +kernel)) ggX11_wayOutOf_X11_otherEnd
theorem dX11_wayOutOf_0 : decode cX11_wayOutOf 0 = .ok (.aload_n 0, 1) := by decide +kernel
theorem dX11_wayOutOf_1 : decode cX11_wayOutOf 1 = .ok (.invokevirtual 145, 3) := by decide +kernel
theorem dX11_wayOutOf_4 : decode cX11_wayOutOf 4 = .ok (.iload_n 1, 1) := by decide +kernel
theorem dX11_wayOutOf_5 : decode cX11_wayOutOf 5 = .ok (.istore_n 2, 1) := by decide +kernel
theorem dX11_wayOutOf_6 : decode cX11_wayOutOf 6 = .ok (.iconst 0, 1) := by decide +kernel
theorem dX11_wayOutOf_7 : decode cX11_wayOutOf 7 = .ok (.istore_n 3, 1) := by decide +kernel
theorem dX11_wayOutOf_8 : decode cX11_wayOutOf 8 = .ok (.aload_n 0, 1) := by decide +kernel
theorem dX11_wayOutOf_9 : decode cX11_wayOutOf 9 = .ok (.getfield 22, 3) := by decide +kernel
theorem dX11_wayOutOf_12 : decode cX11_wayOutOf 12 = .ok (.iload_n 2, 1) := by decide +kernel
theorem dX11_wayOutOf_13 : decode cX11_wayOutOf 13 = .ok (.iaload, 1) := by decide +kernel
theorem dX11_wayOutOf_14 : decode cX11_wayOutOf 14 = .ok (.iconst (-1), 1) := by decide +kernel
theorem dX11_wayOutOf_15 : decode cX11_wayOutOf 15 = .ok (.if_icmp .ne 66, 3) := by decide +kernel
theorem dX11_wayOutOf_18 : decode cX11_wayOutOf 18 = .ok (.iconst (-1), 1) := by decide +kernel
theorem dX11_wayOutOf_19 : decode cX11_wayOutOf 19 = .ok (.istore 4, 2) := by decide +kernel
theorem dX11_wayOutOf_21 : decode cX11_wayOutOf 21 = .ok (.aload_n 0, 1) := by decide +kernel
theorem dX11_wayOutOf_22 : decode cX11_wayOutOf 22 = .ok (.getfield 101, 3) := by decide +kernel
theorem dX11_wayOutOf_25 : decode cX11_wayOutOf 25 = .ok (.iconst 1, 1) := by decide +kernel
theorem dX11_wayOutOf_26 : decode cX11_wayOutOf 26 = .ok (.isub, 1) := by decide +kernel
theorem dX11_wayOutOf_27 : decode cX11_wayOutOf 27 = .ok (.istore 5, 2) := by decide +kernel
theorem dX11_wayOutOf_29 : decode cX11_wayOutOf 29 = .ok (.iload 5, 2) := by decide +kernel
theorem dX11_wayOutOf_31 : decode cX11_wayOutOf 31 = .ok (.ifCond .lt 28, 3) := by decide +kernel
theorem dX11_wayOutOf_34 : decode cX11_wayOutOf 34 = .ok (.aload_n 0, 1) := by decide +kernel
theorem dX11_wayOutOf_35 : decode cX11_wayOutOf 35 = .ok (.iload 5, 2) := by decide +kernel
theorem dX11_wayOutOf_37 : decode cX11_wayOutOf 37 = .ok (.invokevirtual 142, 3) := by decide +kernel
theorem dX11_wayOutOf_40 : decode cX11_wayOutOf 40 = .ok (.iload_n 2, 1) := by decide +kernel
theorem dX11_wayOutOf_41 : decode cX11_wayOutOf 41 = .ok (.if_icmp .ne 8, 3) := by decide +kernel
theorem dX11_wayOutOf_44 : decode cX11_wayOutOf 44 = .ok (.iload 5, 2) := by decide +kernel
theorem dX11_wayOutOf_46 : decode cX11_wayOutOf 46 = .ok (.goto 5, 3) := by decide +kernel
theorem dX11_wayOutOf_49 : decode cX11_wayOutOf 49 = .ok (.iload 4, 2) := by decide +kernel
theorem dX11_wayOutOf_51 : decode cX11_wayOutOf 51 = .ok (.istore 4, 2) := by decide +kernel
theorem dX11_wayOutOf_53 : decode cX11_wayOutOf 53 = .ok (.iinc 5 (-1), 3) := by decide +kernel
theorem dX11_wayOutOf_56 : decode cX11_wayOutOf 56 = .ok (.goto (-27), 3) := by decide +kernel
theorem dX11_wayOutOf_59 : decode cX11_wayOutOf 59 = .ok (.iload 4, 2) := by decide +kernel
theorem dX11_wayOutOf_61 : decode cX11_wayOutOf 61 = .ok (.iconst (-1), 1) := by decide +kernel
theorem dX11_wayOutOf_62 : decode cX11_wayOutOf 62 = .ok (.if_icmp .ne 5, 3) := by decide +kernel
theorem dX11_wayOutOf_65 : decode cX11_wayOutOf 65 = .ok (.iconst (-1), 1) := by decide +kernel
theorem dX11_wayOutOf_66 : decode cX11_wayOutOf 66 = .ok (.ireturn, 1) := by decide +kernel
theorem dX11_wayOutOf_67 : decode cX11_wayOutOf 67 = .ok (.aload_n 0, 1) := by decide +kernel
theorem dX11_wayOutOf_68 : decode cX11_wayOutOf 68 = .ok (.iload 4, 2) := by decide +kernel
theorem dX11_wayOutOf_70 : decode cX11_wayOutOf 70 = .ok (.iload_n 2, 1) := by decide +kernel
theorem dX11_wayOutOf_71 : decode cX11_wayOutOf 71 = .ok (.invokevirtual 138, 3) := by decide +kernel
theorem dX11_wayOutOf_74 : decode cX11_wayOutOf 74 = .ok (.istore_n 2, 1) := by decide +kernel
theorem dX11_wayOutOf_75 : decode cX11_wayOutOf 75 = .ok (.iinc 3 1, 3) := by decide +kernel
theorem dX11_wayOutOf_78 : decode cX11_wayOutOf 78 = .ok (.goto (-70), 3) := by decide +kernel
theorem dX11_wayOutOf_81 : decode cX11_wayOutOf 81 = .ok (.iload_n 3, 1) := by decide +kernel
theorem dX11_wayOutOf_82 : decode cX11_wayOutOf 82 = .ok (.ireturn, 1) := by decide +kernel
set_option maxRecDepth 20000 in
theorem ggX11_wayOut_X11_lacks : GoodIn wsX11_wayOut wsX11_lacks := goodIn_r _ [5, 6, 54, 55, 56, 57, 58, 59, 60, 61, 62, 63, 64, 65, 66, 67, 68, 69, 70, 71, 72, 73, 74, 75, 76, 77, 78, 79, 80, 81, 82, 83, 84, 85, 86, 87, 88, 89] (by decide +kernel) (by decide +kernel)
set_option maxRecDepth 20000 in
theorem gX11_wayOut_X11_lacks : GoodIn wsX11_wayOut (wsV RX11 104 RX11 yX11_lacks wsX11_lacks) := goodIn_app (goodIn_of _ (by decide +kernel)) ggX11_wayOut_X11_lacks
set_option maxRecDepth 20000 in
theorem ggX11_wayOut_X11_isKnot : GoodIn wsX11_wayOut wsX11_isKnot := goodIn_r _ [10, 11, 1, 2, 3, 4, 5, 6, 12, 13, 14, 54, 55, 56, 57, 58, 59, 60, 61, 62, 63, 64, 65, 66, 67, 68, 69, 70, 71, 72, 73, 74, 75, 76, 77, 78, 79, 80, 81, 82, 83, 84, 85, 86, 87, 88, 89] (by decide +kernel) (by decide +kernel)
set_option maxRecDepth 20000 in
theorem gX11_wayOut_X11_isKnot : GoodIn wsX11_wayOut (wsV RX11 157 RX11 yX11_isKnot wsX11_isKnot) := goodIn_app (goodIn_of _ (by decide +kernel)) ggX11_wayOut_X11_isKnot
set_option maxRecDepth 20000 in
theorem ggX11_wayOut_X11_wayOutOf : GoodIn wsX11_wayOut wsX11_wayOutOf := goodIn_r _ [18, 19, 6, 20, 21, 22, 4, 23, 24, 25, 26, 27, 28, 29, 30, 31, 32, 33, 34, 35, 36, 37, 38, 39, 40, 41, 42, 43, 44, 45, 46, 47, 48, 49, 50, 51, 52, 53, 54, 55, 56, 57, 58, 59, 60, 61, 62, 63, 64, 65, 66, 67, 68, 69, 70, 71, 72, 73, 74, 75, 76, 77, 78, 79, 80, 81, 82, 83, 84, 85, 86, 87, 88, 89] (by decide +kernel) (by decide +kernel)
set_option maxRecDepth 20000 in
theorem gX11_wayOut_X11_wayOutOf : GoodIn wsX11_wayOut (wsV RX11 198 RX11 yX11_wayOutOf wsX11_wayOutOf) := goodIn_app (goodIn_of _ (by decide +kernel)) ggX11_wayOut_X11_wayOutOf
theorem dX11_wayOut_0 : decode cX11_wayOut 0 = .ok (.aload_n 0, 1) := by decide +kernel
theorem dX11_wayOut_1 : decode cX11_wayOut 1 = .ok (.invokevirtual 104, 3) := by decide +kernel
theorem dX11_wayOut_4 : decode cX11_wayOut 4 = .ok (.ifCond .eq 6, 3) := by decide +kernel
theorem dX11_wayOut_7 : decode cX11_wayOut 7 = .ok (.bipush (-103), 2) := by decide +kernel
theorem dX11_wayOut_9 : decode cX11_wayOut 9 = .ok (.ireturn, 1) := by decide +kernel
theorem dX11_wayOut_10 : decode cX11_wayOut 10 = .ok (.aload_n 0, 1) := by decide +kernel
theorem dX11_wayOut_11 : decode cX11_wayOut 11 = .ok (.iload_n 1, 1) := by decide +kernel
theorem dX11_wayOut_12 : decode cX11_wayOut 12 = .ok (.invokevirtual 157, 3) := by decide +kernel
theorem dX11_wayOut_15 : decode cX11_wayOut 15 = .ok (.ifCond .eq 11, 3) := by decide +kernel
theorem dX11_wayOut_18 : decode cX11_wayOut 18 = .ok (.aload_n 0, 1) := by decide +kernel
theorem dX11_wayOut_19 : decode cX11_wayOut 19 = .ok (.iload_n 1, 1) := by decide +kernel
theorem dX11_wayOut_20 : decode cX11_wayOut 20 = .ok (.invokevirtual 198, 3) := by decide +kernel
theorem dX11_wayOut_23 : decode cX11_wayOut 23 = .ok (.goto 5, 3) := by decide +kernel
theorem dX11_wayOut_26 : decode cX11_wayOut 26 = .ok (.bipush (-101), 2) := by decide +kernel
theorem dX11_wayOut_28 : decode cX11_wayOut 28 = .ok (.ireturn, 1) := by decide +kernel
theorem dX11_isNose_0 : decode cX11_isNose 0 = .ok (.aload_n 0, 1) := by decide +kernel
theorem dX11_isNose_1 : decode cX11_isNose 1 = .ok (.getfield 34, 3) := by decide +kernel
theorem dX11_isNose_4 : decode cX11_isNose 4 = .ok (.iconst 3, 1) := by decide +kernel
theorem dX11_isNose_5 : decode cX11_isNose 5 = .ok (.iload_n 1, 1) := by decide +kernel
theorem dX11_isNose_6 : decode cX11_isNose 6 = .ok (.imul, 1) := by decide +kernel
theorem dX11_isNose_7 : decode cX11_isNose 7 = .ok (.iaload, 1) := by decide +kernel
theorem dX11_isNose_8 : decode cX11_isNose 8 = .ok (.iconst 1, 1) := by decide +kernel
theorem dX11_isNose_9 : decode cX11_isNose 9 = .ok (.if_icmp .eq 15, 3) := by decide +kernel
theorem dX11_isNose_12 : decode cX11_isNose 12 = .ok (.aload_n 0, 1) := by decide +kernel
theorem dX11_isNose_13 : decode cX11_isNose 13 = .ok (.getfield 34, 3) := by decide +kernel
theorem dX11_isNose_16 : decode cX11_isNose 16 = .ok (.iconst 3, 1) := by decide +kernel
theorem dX11_isNose_17 : decode cX11_isNose 17 = .ok (.iload_n 1, 1) := by decide +kernel
theorem dX11_isNose_18 : decode cX11_isNose 18 = .ok (.imul, 1) := by decide +kernel
theorem dX11_isNose_19 : decode cX11_isNose 19 = .ok (.iaload, 1) := by decide +kernel
theorem dX11_isNose_20 : decode cX11_isNose 20 = .ok (.iconst 4, 1) := by decide +kernel
theorem dX11_isNose_21 : decode cX11_isNose 21 = .ok (.if_icmp .ne 7, 3) := by decide +kernel
theorem dX11_isNose_24 : decode cX11_isNose 24 = .ok (.iconst 1, 1) := by decide +kernel
theorem dX11_isNose_25 : decode cX11_isNose 25 = .ok (.goto 4, 3) := by decide +kernel
theorem dX11_isNose_28 : decode cX11_isNose 28 = .ok (.iconst 0, 1) := by decide +kernel
theorem dX11_isNose_29 : decode cX11_isNose 29 = .ok (.ireturn, 1) := by decide +kernel
set_option maxRecDepth 20000 in
theorem ggX11_areNoses_X11_in : GoodIn wsX11_areNoses wsX11_in := goodIn_r _ [5] (by decide +kernel) (by decide +kernel)
set_option maxRecDepth 20000 in
theorem gX11_areNoses_X11_in : GoodIn wsX11_areNoses (va_wsS RX11 78 yX11_in wsX11_in) := goodIn_app (goodIn_of _ (by decide +kernel)) ggX11_areNoses_X11_in
set_option maxRecDepth 20000 in
theorem ggX11_areNoses_X11_isNose : GoodIn wsX11_areNoses wsX11_isNose := goodIn_r _ [9, 10, 11, 12, 13, 14, 15, 16, 17, 18, 19, 20, 21, 22, 23, 24, 25, 26, 27, 28, 29, 30, 31, 32, 33, 34, 35, 36, 37, 38, 39, 40, 41, 42, 43, 44, 45, 46] (by decide +kernel) (by decide +kernel)
set_option maxRecDepth 20000 in
theorem gX11_areNoses_X11_isNose : GoodIn wsX11_areNoses (wsV RX11 201 RX11 yX11_isNose wsX11_isNose) := goodIn_app (goodIn_of _ (by decide +kernel)) ggX11_areNoses_X11_isNose
theorem dX11_areNoses_0 : decode cX11_areNoses 0 = .ok (.iload_n 1, 1) := by decide +kernel
theorem dX11_areNoses_1 : decode cX11_areNoses 1 = .ok (.i2l, 1) := by decide +kernel
theorem dX11_areNoses_2 : decode cX11_areNoses 2 = .ok (.lconst 0, 1) := by decide +kernel
theorem dX11_areNoses_3 : decode cX11_areNoses 3 = .ok (.iconst 1, 1) := by decide +kernel
theorem dX11_areNoses_4 : decode cX11_areNoses 4 = .ok (.aload_n 0, 1) := by decide +kernel
theorem dX11_areNoses_5 : decode cX11_areNoses 5 = .ok (.getfield 117, 3) := by decide +kernel
theorem dX11_areNoses_8 : decode cX11_areNoses 8 = .ok (.ishl, 1) := by decide +kernel
theorem dX11_areNoses_9 : decode cX11_areNoses 9 = .ok (.iconst 1, 1) := by decide +kernel
theorem dX11_areNoses_10 : decode cX11_areNoses 10 = .ok (.isub, 1) := by decide +kernel
theorem dX11_areNoses_11 : decode cX11_areNoses 11 = .ok (.i2l, 1) := by decide +kernel
theorem dX11_areNoses_12 : decode cX11_areNoses 12 = .ok (.invokestatic 78, 3) := by decide +kernel
theorem dX11_areNoses_15 : decode cX11_areNoses 15 = .ok (.istore_n 2, 1) := by decide +kernel
theorem dX11_areNoses_16 : decode cX11_areNoses 16 = .ok (.iconst 0, 1) := by decide +kernel
theorem dX11_areNoses_17 : decode cX11_areNoses 17 = .ok (.istore_n 3, 1) := by decide +kernel
theorem dX11_areNoses_18 : decode cX11_areNoses 18 = .ok (.iload_n 3, 1) := by decide +kernel
theorem dX11_areNoses_19 : decode cX11_areNoses 19 = .ok (.aload_n 0, 1) := by decide +kernel
theorem dX11_areNoses_20 : decode cX11_areNoses 20 = .ok (.getfield 117, 3) := by decide +kernel
theorem dX11_areNoses_23 : decode cX11_areNoses 23 = .ok (.if_icmp .ge 35, 3) := by decide +kernel
theorem dX11_areNoses_26 : decode cX11_areNoses 26 = .ok (.iload_n 2, 1) := by decide +kernel
theorem dX11_areNoses_27 : decode cX11_areNoses 27 = .ok (.ifCond .eq 23, 3) := by decide +kernel
theorem dX11_areNoses_30 : decode cX11_areNoses 30 = .ok (.iload_n 1, 1) := by decide +kernel
theorem dX11_areNoses_31 : decode cX11_areNoses 31 = .ok (.iload_n 3, 1) := by decide +kernel
theorem dX11_areNoses_32 : decode cX11_areNoses 32 = .ok (.ishr, 1) := by decide +kernel
theorem dX11_areNoses_33 : decode cX11_areNoses 33 = .ok (.iconst 1, 1) := by decide +kernel
theorem dX11_areNoses_34 : decode cX11_areNoses 34 = .ok (.iand, 1) := by decide +kernel
theorem dX11_areNoses_35 : decode cX11_areNoses 35 = .ok (.ifCond .eq 11, 3) := by decide +kernel
theorem dX11_areNoses_38 : decode cX11_areNoses 38 = .ok (.aload_n 0, 1) := by decide +kernel
theorem dX11_areNoses_39 : decode cX11_areNoses 39 = .ok (.iload_n 3, 1) := by decide +kernel
theorem dX11_areNoses_40 : decode cX11_areNoses 40 = .ok (.invokevirtual 201, 3) := by decide +kernel
theorem dX11_areNoses_43 : decode cX11_areNoses 43 = .ok (.ifCond .eq 7, 3) := by decide +kernel
theorem dX11_areNoses_46 : decode cX11_areNoses 46 = .ok (.iconst 1, 1) := by decide +kernel
theorem dX11_areNoses_47 : decode cX11_areNoses 47 = .ok (.goto 4, 3) := by decide +kernel
theorem dX11_areNoses_50 : decode cX11_areNoses 50 = .ok (.iconst 0, 1) := by decide +kernel
theorem dX11_areNoses_51 : decode cX11_areNoses 51 = .ok (.istore_n 2, 1) := by decide +kernel
theorem dX11_areNoses_52 : decode cX11_areNoses 52 = .ok (.iinc 3 1, 3) := by decide +kernel
theorem dX11_areNoses_55 : decode cX11_areNoses 55 = .ok (.goto (-37), 3) := by decide +kernel
theorem dX11_areNoses_58 : decode cX11_areNoses 58 = .ok (.iload_n 2, 1) := by decide +kernel
theorem dX11_areNoses_59 : decode cX11_areNoses 59 = .ok (.ireturn, 1) := by decide +kernel
set_option maxRecDepth 20000 in
theorem ggX11_fireOf_X11_layHeights : GoodIn wsX11_fireOf wsX11_layHeights := goodIn_r _ [8, 9, 10, 11, 12, 7, 13, 14, 15, 16, 17, 18, 19, 20, 21, 22, 23, 24, 25, 26, 27, 28, 29, 30, 31, 32, 49, 50, 51, 52, 53, 54, 55, 56, 57, 58, 59, 60, 61, 62, 63, 64, 65, 66, 67, 68, 69, 70, 71, 72, 73, 74, 75, 76, 77, 78, 79, 80, 81, 82, 83, 84] (by decide +kernel) (by decide +kernel)
set_option maxRecDepth 20000 in
theorem gX11_fireOf_X11_layHeights : GoodIn wsX11_fireOf (wsV RX11 145 RX11 yX11_layHeights wsX11_layHeights) := goodIn_app (goodIn_of _ (by decide +kernel)) ggX11_fireOf_X11_layHeights
set_option maxRecDepth 20000 in
theorem ggX11_fireOf_X11_laySmoke : GoodIn wsX11_fireOf wsX11_laySmoke := goodIn_r _ [36, 2, 15, 26, 27, 37, 38, 39, 7, 40, 9, 28, 29, 30, 31, 32, 41, 42, 43, 44, 49, 50, 51, 52, 53, 54, 55, 56, 57, 58, 59, 60, 61, 62, 63, 64, 65, 66, 67, 68, 69, 70, 71, 72, 73, 74, 75, 76, 77, 78, 79, 80, 81, 82, 83, 84] (by decide +kernel) (by decide +kernel)
set_option maxRecDepth 20000 in
theorem gX11_fireOf_X11_laySmoke : GoodIn wsX11_fireOf (wsV RX11 181 RX11 yX11_laySmoke wsX11_laySmoke) := goodIn_app (goodIn_of _ (by decide +kernel)) ggX11_fireOf_X11_laySmoke
set_option maxRecDepth 20000 in
theorem ggX11_fireOf_X11_isNose : GoodIn wsX11_fireOf wsX11_isNose := goodIn_r _ [48, 3, 49, 50, 51, 52, 53, 54, 55, 56, 57, 58, 59, 60, 61, 62, 63, 64, 65, 66, 67, 68, 69, 70, 71, 72, 73, 74, 75, 76, 77, 78, 79, 80, 81, 82, 83, 84] (by decide +kernel) (by decide +kernel)
set_option maxRecDepth 20000 in
theorem gX11_fireOf_X11_isNose : GoodIn wsX11_fireOf (wsV RX11 201 RX11 yX11_isNose wsX11_isNose) := goodIn_app (goodIn_of _ (by decide +kernel)) ggX11_fireOf_X11_isNose
theorem dX11_fireOf_0 : decode cX11_fireOf 0 = .ok (.aload_n 0, 1) := by decide +kernel
theorem dX11_fireOf_1 : decode cX11_fireOf 1 = .ok (.invokevirtual 145, 3) := by decide +kernel
theorem dX11_fireOf_4 : decode cX11_fireOf 4 = .ok (.iconst 0, 1) := by decide +kernel
theorem dX11_fireOf_5 : decode cX11_fireOf 5 = .ok (.istore_n 3, 1) := by decide +kernel
theorem dX11_fireOf_6 : decode cX11_fireOf 6 = .ok (.iconst 0, 1) := by decide +kernel
theorem dX11_fireOf_7 : decode cX11_fireOf 7 = .ok (.istore 4, 2) := by decide +kernel
theorem dX11_fireOf_9 : decode cX11_fireOf 9 = .ok (.iload 4, 2) := by decide +kernel
theorem dX11_fireOf_11 : decode cX11_fireOf 11 = .ok (.bipush 7, 2) := by decide +kernel
theorem dX11_fireOf_13 : decode cX11_fireOf 13 = .ok (.if_icmp .ge 120, 3) := by decide +kernel
theorem dX11_fireOf_16 : decode cX11_fireOf 16 = .ok (.aload_n 0, 1) := by decide +kernel
theorem dX11_fireOf_17 : decode cX11_fireOf 17 = .ok (.iload 4, 2) := by decide +kernel
theorem dX11_fireOf_19 : decode cX11_fireOf 19 = .ok (.invokevirtual 181, 3) := by decide +kernel
theorem dX11_fireOf_22 : decode cX11_fireOf 22 = .ok (.iconst 1, 1) := by decide +kernel
theorem dX11_fireOf_23 : decode cX11_fireOf 23 = .ok (.istore 5, 2) := by decide +kernel
theorem dX11_fireOf_25 : decode cX11_fireOf 25 = .ok (.iconst 0, 1) := by decide +kernel
theorem dX11_fireOf_26 : decode cX11_fireOf 26 = .ok (.istore 6, 2) := by decide +kernel
theorem dX11_fireOf_28 : decode cX11_fireOf 28 = .ok (.iload 6, 2) := by decide +kernel
theorem dX11_fireOf_30 : decode cX11_fireOf 30 = .ok (.aload_n 0, 1) := by decide +kernel
theorem dX11_fireOf_31 : decode cX11_fireOf 31 = .ok (.getfield 117, 3) := by decide +kernel
theorem dX11_fireOf_34 : decode cX11_fireOf 34 = .ok (.if_icmp .ge 77, 3) := by decide +kernel
theorem dX11_fireOf_37 : decode cX11_fireOf 37 = .ok (.aload_n 0, 1) := by decide +kernel
theorem dX11_fireOf_38 : decode cX11_fireOf 38 = .ok (.getfield 37, 3) := by decide +kernel
theorem dX11_fireOf_41 : decode cX11_fireOf 41 = .ok (.aload_n 0, 1) := by decide +kernel
theorem dX11_fireOf_42 : decode cX11_fireOf 42 = .ok (.getfield 34, 3) := by decide +kernel
theorem dX11_fireOf_45 : decode cX11_fireOf 45 = .ok (.iconst 3, 1) := by decide +kernel
theorem dX11_fireOf_46 : decode cX11_fireOf 46 = .ok (.iload 6, 2) := by decide +kernel
theorem dX11_fireOf_48 : decode cX11_fireOf 48 = .ok (.imul, 1) := by decide +kernel
theorem dX11_fireOf_49 : decode cX11_fireOf 49 = .ok (.iconst 1, 1) := by decide +kernel
theorem dX11_fireOf_50 : decode cX11_fireOf 50 = .ok (.iadd, 1) := by decide +kernel
theorem dX11_fireOf_51 : decode cX11_fireOf 51 = .ok (.iaload, 1) := by decide +kernel
theorem dX11_fireOf_52 : decode cX11_fireOf 52 = .ok (.iaload, 1) := by decide +kernel
theorem dX11_fireOf_53 : decode cX11_fireOf 53 = .ok (.iload_n 1, 1) := by decide +kernel
theorem dX11_fireOf_54 : decode cX11_fireOf 54 = .ok (.if_icmp .gt 7, 3) := by decide +kernel
theorem dX11_fireOf_57 : decode cX11_fireOf 57 = .ok (.iconst 1, 1) := by decide +kernel
theorem dX11_fireOf_58 : decode cX11_fireOf 58 = .ok (.goto 4, 3) := by decide +kernel
theorem dX11_fireOf_61 : decode cX11_fireOf 61 = .ok (.iconst 0, 1) := by decide +kernel
theorem dX11_fireOf_62 : decode cX11_fireOf 62 = .ok (.istore 7, 2) := by decide +kernel
theorem dX11_fireOf_64 : decode cX11_fireOf 64 = .ok (.iload 5, 2) := by decide +kernel
theorem dX11_fireOf_66 : decode cX11_fireOf 66 = .ok (.ifCond .eq 36, 3) := by decide +kernel
theorem dX11_fireOf_69 : decode cX11_fireOf 69 = .ok (.aload_n 0, 1) := by decide +kernel
theorem dX11_fireOf_70 : decode cX11_fireOf 70 = .ok (.iload 6, 2) := by decide +kernel
theorem dX11_fireOf_72 : decode cX11_fireOf 72 = .ok (.invokevirtual 201, 3) := by decide +kernel
theorem dX11_fireOf_75 : decode cX11_fireOf 75 = .ok (.ifCond .eq 23, 3) := by decide +kernel
theorem dX11_fireOf_78 : decode cX11_fireOf 78 = .ok (.iload 7, 2) := by decide +kernel
theorem dX11_fireOf_80 : decode cX11_fireOf 80 = .ok (.iload_n 2, 1) := by decide +kernel
theorem dX11_fireOf_81 : decode cX11_fireOf 81 = .ok (.iload 6, 2) := by decide +kernel
theorem dX11_fireOf_83 : decode cX11_fireOf 83 = .ok (.ishr, 1) := by decide +kernel
theorem dX11_fireOf_84 : decode cX11_fireOf 84 = .ok (.iconst 1, 1) := by decide +kernel
theorem dX11_fireOf_85 : decode cX11_fireOf 85 = .ok (.iand, 1) := by decide +kernel
theorem dX11_fireOf_86 : decode cX11_fireOf 86 = .ok (.iconst 1, 1) := by decide +kernel
theorem dX11_fireOf_87 : decode cX11_fireOf 87 = .ok (.if_icmp .ne 7, 3) := by decide +kernel
theorem dX11_fireOf_90 : decode cX11_fireOf 90 = .ok (.iconst 1, 1) := by decide +kernel
theorem dX11_fireOf_91 : decode cX11_fireOf 91 = .ok (.goto 4, 3) := by decide +kernel
theorem dX11_fireOf_94 : decode cX11_fireOf 94 = .ok (.iconst 0, 1) := by decide +kernel
theorem dX11_fireOf_95 : decode cX11_fireOf 95 = .ok (.if_icmp .ne 7, 3) := by decide +kernel
theorem dX11_fireOf_98 : decode cX11_fireOf 98 = .ok (.iconst 1, 1) := by decide +kernel
theorem dX11_fireOf_99 : decode cX11_fireOf 99 = .ok (.goto 4, 3) := by decide +kernel
theorem dX11_fireOf_102 : decode cX11_fireOf 102 = .ok (.iconst 0, 1) := by decide +kernel
theorem dX11_fireOf_103 : decode cX11_fireOf 103 = .ok (.istore 5, 2) := by decide +kernel
theorem dX11_fireOf_105 : decode cX11_fireOf 105 = .ok (.iinc 6 1, 3) := by decide +kernel
theorem dX11_fireOf_108 : decode cX11_fireOf 108 = .ok (.goto (-80), 3) := by decide +kernel
theorem dX11_fireOf_111 : decode cX11_fireOf 111 = .ok (.iload_n 3, 1) := by decide +kernel
theorem dX11_fireOf_112 : decode cX11_fireOf 112 = .ok (.iload 5, 2) := by decide +kernel
theorem dX11_fireOf_114 : decode cX11_fireOf 114 = .ok (.ifCond .eq 10, 3) := by decide +kernel
theorem dX11_fireOf_117 : decode cX11_fireOf 117 = .ok (.iconst 1, 1) := by decide +kernel
theorem dX11_fireOf_118 : decode cX11_fireOf 118 = .ok (.iload 4, 2) := by decide +kernel
theorem dX11_fireOf_120 : decode cX11_fireOf 120 = .ok (.ishl, 1) := by decide +kernel
theorem dX11_fireOf_121 : decode cX11_fireOf 121 = .ok (.goto 4, 3) := by decide +kernel
theorem dX11_fireOf_124 : decode cX11_fireOf 124 = .ok (.iconst 0, 1) := by decide +kernel
theorem dX11_fireOf_125 : decode cX11_fireOf 125 = .ok (.ior, 1) := by decide +kernel
theorem dX11_fireOf_126 : decode cX11_fireOf 126 = .ok (.istore_n 3, 1) := by decide +kernel
theorem dX11_fireOf_127 : decode cX11_fireOf 127 = .ok (.iinc 4 1, 3) := by decide +kernel
theorem dX11_fireOf_130 : decode cX11_fireOf 130 = .ok (.goto (-121), 3) := by decide +kernel
theorem dX11_fireOf_133 : decode cX11_fireOf 133 = .ok (.iload_n 3, 1) := by decide +kernel
theorem dX11_fireOf_134 : decode cX11_fireOf 134 = .ok (.ireturn, 1) := by decide +kernel
set_option maxRecDepth 20000 in
theorem ggX11_fire_X11_lacks : GoodIn wsX11_fire wsX11_lacks := goodIn_r _ [6, 7, 65, 66, 67, 68, 69, 70, 71, 72, 73, 74, 75, 76, 77, 78, 79, 80, 81, 82, 83, 84, 85, 86, 87, 88, 89, 90, 91, 92, 93, 94, 95, 96, 97, 98, 99, 100] (by decide +kernel) (by decide +kernel)
set_option maxRecDepth 20000 in
theorem gX11_fire_X11_lacks : GoodIn wsX11_fire (wsV RX11 104 RX11 yX11_lacks wsX11_lacks) := goodIn_app (goodIn_of _ (by decide +kernel)) ggX11_fire_X11_lacks
set_option maxRecDepth 20000 in
theorem ggX11_fire_X11_in : GoodIn wsX11_fire wsX11_in := goodIn_r _ [10] (by decide +kernel) (by decide +kernel)
set_option maxRecDepth 20000 in
theorem gX11_fire_X11_in : GoodIn wsX11_fire (va_wsS RX11 78 yX11_in wsX11_in) := goodIn_app (goodIn_of _ (by decide +kernel)) ggX11_fire_X11_in
set_option maxRecDepth 20000 in
theorem ggX11_fire_X11_areNoses : GoodIn wsX11_fire wsX11_areNoses := goodIn_r _ [14, 15, 8, 9, 5, 10, 16, 17, 18, 19, 20, 65, 66, 67, 68, 69, 70, 71, 72, 73, 74, 75, 76, 77, 78, 79, 80, 81, 82, 83, 84, 85, 86, 87, 88, 89, 90, 91, 92, 93, 94, 95, 96, 97, 98, 99, 100] (by decide +kernel) (by decide +kernel)
set_option maxRecDepth 20000 in
theorem gX11_fire_X11_areNoses : GoodIn wsX11_fire (wsV RX11 204 RX11 yX11_areNoses wsX11_areNoses) := goodIn_app (goodIn_of _ (by decide +kernel)) ggX11_fire_X11_areNoses
set_option maxRecDepth 20000 in
theorem ggX11_fire_X11_fireOf : GoodIn wsX11_fire wsX11_fireOf := goodIn_r _ [24, 15, 25, 20, 26, 27, 28, 5, 29, 30, 31, 32, 33, 34, 35, 36, 37, 38, 39, 40, 41, 42, 43, 44, 45, 46, 7, 47, 48, 49, 50, 51, 52, 53, 54, 55, 56, 57, 58, 59, 60, 61, 62, 63, 64, 16, 17, 18, 19, 65, 66, 67, 68, 69, 70, 71, 72, 73, 74, 75, 76, 77, 78, 79, 80, 81, 82, 83, 84, 85, 86, 87, 88, 89, 90, 91, 92, 93, 94, 95, 96, 97, 98, 99, 100] (by decide +kernel) (by decide +kernel)
set_option maxRecDepth 20000 in
theorem gX11_fire_X11_fireOf : GoodIn wsX11_fire (wsV RX11 207 RX11 yX11_fireOf wsX11_fireOf) := goodIn_app (goodIn_of _ (by decide +kernel)) ggX11_fire_X11_fireOf
theorem dX11_fire_0 : decode cX11_fire 0 = .ok (.aload_n 0, 1) := by decide +kernel
theorem dX11_fire_1 : decode cX11_fire 1 = .ok (.invokevirtual 104, 3) := by decide +kernel
theorem dX11_fire_4 : decode cX11_fire 4 = .ok (.ifCond .eq 6, 3) := by decide +kernel
theorem dX11_fire_7 : decode cX11_fire 7 = .ok (.bipush (-103), 2) := by decide +kernel
theorem dX11_fire_9 : decode cX11_fire 9 = .ok (.ireturn, 1) := by decide +kernel
theorem dX11_fire_10 : decode cX11_fire 10 = .ok (.iload_n 1, 1) := by decide +kernel
theorem dX11_fire_11 : decode cX11_fire 11 = .ok (.i2l, 1) := by decide +kernel
theorem dX11_fire_12 : decode cX11_fire 12 = .ok (.lconst 0, 1) := by decide +kernel
theorem dX11_fire_13 : decode cX11_fire 13 = .ok (.ldc2_w 176, 3) := by decide +kernel
theorem dX11_fire_16 : decode cX11_fire 16 = .ok (.invokestatic 78, 3) := by decide +kernel
theorem dX11_fire_19 : decode cX11_fire 19 = .ok (.ifCond .eq 20, 3) := by decide +kernel
theorem dX11_fire_22 : decode cX11_fire 22 = .ok (.aload_n 0, 1) := by decide +kernel
theorem dX11_fire_23 : decode cX11_fire 23 = .ok (.iload_n 2, 1) := by decide +kernel
theorem dX11_fire_24 : decode cX11_fire 24 = .ok (.invokevirtual 204, 3) := by decide +kernel
theorem dX11_fire_27 : decode cX11_fire 27 = .ok (.ifCond .eq 12, 3) := by decide +kernel
theorem dX11_fire_30 : decode cX11_fire 30 = .ok (.aload_n 0, 1) := by decide +kernel
theorem dX11_fire_31 : decode cX11_fire 31 = .ok (.iload_n 1, 1) := by decide +kernel
theorem dX11_fire_32 : decode cX11_fire 32 = .ok (.iload_n 2, 1) := by decide +kernel
theorem dX11_fire_33 : decode cX11_fire 33 = .ok (.invokevirtual 207, 3) := by decide +kernel
theorem dX11_fire_36 : decode cX11_fire 36 = .ok (.goto 5, 3) := by decide +kernel
theorem dX11_fire_39 : decode cX11_fire 39 = .ok (.bipush (-102), 2) := by decide +kernel
theorem dX11_fire_41 : decode cX11_fire 41 = .ok (.ireturn, 1) := by decide +kernel
set_option maxRecDepth 20000 in
theorem ggX11_next_X11_lacks : GoodIn wsX11_next wsX11_lacks := goodIn_r _ [8, 9, 68, 69, 70, 71, 72, 73, 74, 75, 76, 77, 78, 79, 80, 81, 82, 83, 84, 85, 86, 87, 88, 89, 90, 91, 92, 93, 94, 95, 96, 97, 98, 99, 100, 101, 102, 103] (by decide +kernel) (by decide +kernel)
set_option maxRecDepth 20000 in
theorem gX11_next_X11_lacks : GoodIn wsX11_next (wsV RX11 104 RX11 yX11_lacks wsX11_lacks) := goodIn_app (goodIn_of _ (by decide +kernel)) ggX11_next_X11_lacks
set_option maxRecDepth 20000 in
theorem ggX11_next_X11_in : GoodIn wsX11_next wsX11_in := goodIn_r _ [12] (by decide +kernel) (by decide +kernel)
set_option maxRecDepth 20000 in
theorem gX11_next_X11_in : GoodIn wsX11_next (va_wsS RX11 78 yX11_in wsX11_in) := goodIn_app (goodIn_of _ (by decide +kernel)) ggX11_next_X11_in
