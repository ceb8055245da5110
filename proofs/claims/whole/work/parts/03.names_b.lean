theorem dX10_init_5 : decode cX10_init 5 = .ok (.new 7, 3) := by decide +kernel
theorem dX10_init_8 : decode cX10_init 8 = .ok (.dup, 1) := by decide +kernel
theorem dX10_init_9 : decode cX10_init 9 = .ok (.invokespecial 9, 3) := by decide +kernel
theorem dX10_init_12 : decode cX10_init 12 = .ok (.putfield 10, 3) := by decide +kernel
theorem dX10_init_15 : decode cX10_init 15 = .ok (.aload_n 0, 1) := by decide +kernel
theorem dX10_init_16 : decode cX10_init 16 = .ok (.new 16, 3) := by decide +kernel
theorem dX10_init_19 : decode cX10_init 19 = .ok (.dup, 1) := by decide +kernel
theorem dX10_init_20 : decode cX10_init 20 = .ok (.invokespecial 18, 3) := by decide +kernel
theorem dX10_init_23 : decode cX10_init 23 = .ok (.putfield 19, 3) := by decide +kernel
theorem dX10_init_26 : decode cX10_init 26 = .ok (.aload_n 0, 1) := by decide +kernel
theorem dX10_init_27 : decode cX10_init 27 = .ok (.new 23, 3) := by decide +kernel
theorem dX10_init_30 : decode cX10_init 30 = .ok (.dup, 1) := by decide +kernel
theorem dX10_init_31 : decode cX10_init 31 = .ok (.invokespecial 25, 3) := by decide +kernel
theorem dX10_init_34 : decode cX10_init 34 = .ok (.putfield 26, 3) := by decide +kernel
theorem dX10_init_37 : decode cX10_init 37 = .ok (.aload_n 0, 1) := by decide +kernel
theorem dX10_init_38 : decode cX10_init 38 = .ok (.new 23, 3) := by decide +kernel
theorem dX10_init_41 : decode cX10_init 41 = .ok (.dup, 1) := by decide +kernel
theorem dX10_init_42 : decode cX10_init 42 = .ok (.invokespecial 25, 3) := by decide +kernel
theorem dX10_init_45 : decode cX10_init 45 = .ok (.putfield 30, 3) := by decide +kernel
theorem dX10_init_48 : decode cX10_init 48 = .ok (.aload_n 0, 1) := by decide +kernel
theorem dX10_init_49 : decode cX10_init 49 = .ok (.new 33, 3) := by decide +kernel
theorem dX10_init_52 : decode cX10_init 52 = .ok (.dup, 1) := by decide +kernel
theorem dX10_init_53 : decode cX10_init 53 = .ok (.invokespecial 35, 3) := by decide +kernel
theorem dX10_init_56 : decode cX10_init 56 = .ok (.putfield 36, 3) := by decide +kernel
theorem dX10_init_59 : decode cX10_init 59 = .ok (.aload_n 0, 1) := by decide +kernel
theorem dX10_init_60 : decode cX10_init 60 = .ok (.new 40, 3) := by decide +kernel
theorem dX10_init_63 : decode cX10_init 63 = .ok (.dup, 1) := by decide +kernel
theorem dX10_init_64 : decode cX10_init 64 = .ok (.invokespecial 42, 3) := by decide +kernel
theorem dX10_init_67 : decode cX10_init 67 = .ok (.putfield 43, 3) := by decide +kernel
theorem dX10_init_70 : decode cX10_init 70 = .ok (.aload_n 0, 1) := by decide +kernel
theorem dX10_init_71 : decode cX10_init 71 = .ok (.new 47, 3) := by decide +kernel
theorem dX10_init_74 : decode cX10_init 74 = .ok (.dup, 1) := by decide +kernel
theorem dX10_init_75 : decode cX10_init 75 = .ok (.invokespecial 49, 3) := by decide +kernel
theorem dX10_init_78 : decode cX10_init 78 = .ok (.putfield 50, 3) := by decide +kernel
theorem dX10_init_81 : decode cX10_init 81 = .ok (.aload_n 0, 1) := by decide +kernel
theorem dX10_init_82 : decode cX10_init 82 = .ok (.new 47, 3) := by decide +kernel
theorem dX10_init_85 : decode cX10_init 85 = .ok (.dup, 1) := by decide +kernel
theorem dX10_init_86 : decode cX10_init 86 = .ok (.invokespecial 49, 3) := by decide +kernel
theorem dX10_init_89 : decode cX10_init 89 = .ok (.putfield 54, 3) := by decide +kernel
theorem dX10_init_92 : decode cX10_init 92 = .ok (.aload_n 0, 1) := by decide +kernel
theorem dX10_init_93 : decode cX10_init 93 = .ok (.new 47, 3) := by decide +kernel
theorem dX10_init_96 : decode cX10_init 96 = .ok (.dup, 1) := by decide +kernel
theorem dX10_init_97 : decode cX10_init 97 = .ok (.invokespecial 49, 3) := by decide +kernel
theorem dX10_init_100 : decode cX10_init 100 = .ok (.putfield 57, 3) := by decide +kernel
theorem dX10_init_103 : decode cX10_init 103 = .ok (.aload_n 0, 1) := by decide +kernel
theorem dX10_init_104 : decode cX10_init 104 = .ok (.new 60, 3) := by decide +kernel
theorem dX10_init_107 : decode cX10_init 107 = .ok (.dup, 1) := by decide +kernel
theorem dX10_init_108 : decode cX10_init 108 = .ok (.invokespecial 62, 3) := by decide +kernel
theorem dX10_init_111 : decode cX10_init 111 = .ok (.putfield 63, 3) := by decide +kernel
theorem dX10_init_114 : decode cX10_init 114 = .ok (.aload_n 0, 1) := by decide +kernel
theorem dX10_init_115 : decode cX10_init 115 = .ok (.new 67, 3) := by decide +kernel
theorem dX10_init_118 : decode cX10_init 118 = .ok (.dup, 1) := by decide +kernel
theorem dX10_init_119 : decode cX10_init 119 = .ok (.invokespecial 69, 3) := by decide +kernel
theorem dX10_init_122 : decode cX10_init 122 = .ok (.putfield 70, 3) := by decide +kernel
theorem dX10_init_125 : decode cX10_init 125 = .ok (.aload_n 0, 1) := by decide +kernel
theorem dX10_init_126 : decode cX10_init 126 = .ok (.iconst (-1), 1) := by decide +kernel
theorem dX10_init_127 : decode cX10_init 127 = .ok (.putfield 74, 3) := by decide +kernel
theorem dX10_init_130 : decode cX10_init 130 = .ok (.return_, 1) := by decide +kernel
set_option maxRecDepth 20000 in
theorem ggX10_letters_X4_lettersIn : GoodIn wsX10_letters wsX4_lettersIn := goodIn_r _ [6, 7, 8, 5, 9, 10] (by decide +kernel) (by decide +kernel)
set_option maxRecDepth 20000 in
theorem gX10_letters_X4_lettersIn : GoodIn wsX10_letters (va_wsS RX10 78 yX4_lettersIn wsX4_lettersIn) := goodIn_app (goodIn_of _ (by decide +kernel)) ggX10_letters_X4_lettersIn
set_option maxRecDepth 20000 in
theorem ggX10_letters_X4_append : GoodIn wsX10_letters wsX4_append := goodIn_r _ [14, 15, 16, 7, 8, 5, 9, 10, 17, 18, 19, 20, 21, 22, 38, 39, 40, 41] (by decide +kernel) (by decide +kernel)
set_option maxRecDepth 20000 in
theorem gX10_letters_X4_append : GoodIn wsX10_letters (wsV RX10 85 RX4 yX4_append wsX4_append) := goodIn_app (goodIn_of _ (by decide +kernel)) ggX10_letters_X4_append
theorem dX10_letters_0 : decode cX10_letters 0 = .ok (.lload_n 1, 1) := by decide +kernel
theorem dX10_letters_1 : decode cX10_letters 1 = .ok (.invokestatic 78, 3) := by decide +kernel
theorem dX10_letters_4 : decode cX10_letters 4 = .ok (.istore_n 3, 1) := by decide +kernel
theorem dX10_letters_5 : decode cX10_letters 5 = .ok (.iload_n 3, 1) := by decide +kernel
theorem dX10_letters_6 : decode cX10_letters 6 = .ok (.iconst (-1), 1) := by decide +kernel
theorem dX10_letters_7 : decode cX10_letters 7 = .ok (.if_icmp .ne 6, 3) := by decide +kernel
theorem dX10_letters_10 : decode cX10_letters 10 = .ok (.bipush (-102), 2) := by decide +kernel
theorem dX10_letters_12 : decode cX10_letters 12 = .ok (.ireturn, 1) := by decide +kernel
theorem dX10_letters_13 : decode cX10_letters 13 = .ok (.aload_n 0, 1) := by decide +kernel
theorem dX10_letters_14 : decode cX10_letters 14 = .ok (.getfield 10, 3) := by decide +kernel
theorem dX10_letters_17 : decode cX10_letters 17 = .ok (.getfield 82, 3) := by decide +kernel
theorem dX10_letters_20 : decode cX10_letters 20 = .ok (.iload_n 3, 1) := by decide +kernel
theorem dX10_letters_21 : decode cX10_letters 21 = .ok (.iadd, 1) := by decide +kernel
theorem dX10_letters_22 : decode cX10_letters 22 = .ok (.bipush 66, 2) := by decide +kernel
theorem dX10_letters_24 : decode cX10_letters 24 = .ok (.if_icmp .le 6, 3) := by decide +kernel
theorem dX10_letters_27 : decode cX10_letters 27 = .ok (.bipush (-104), 2) := by decide +kernel
theorem dX10_letters_29 : decode cX10_letters 29 = .ok (.ireturn, 1) := by decide +kernel
theorem dX10_letters_30 : decode cX10_letters 30 = .ok (.aload_n 0, 1) := by decide +kernel
theorem dX10_letters_31 : decode cX10_letters 31 = .ok (.getfield 10, 3) := by decide +kernel
theorem dX10_letters_34 : decode cX10_letters 34 = .ok (.lload_n 1, 1) := by decide +kernel
theorem dX10_letters_35 : decode cX10_letters 35 = .ok (.iload_n 3, 1) := by decide +kernel
theorem dX10_letters_36 : decode cX10_letters 36 = .ok (.invokevirtual 85, 3) := by decide +kernel
theorem dX10_letters_39 : decode cX10_letters 39 = .ok (.aload_n 0, 1) := by decide +kernel
theorem dX10_letters_40 : decode cX10_letters 40 = .ok (.getfield 10, 3) := by decide +kernel
theorem dX10_letters_43 : decode cX10_letters 43 = .ok (.getfield 82, 3) := by decide +kernel
theorem dX10_letters_46 : decode cX10_letters 46 = .ok (.ireturn, 1) := by decide +kernel
theorem dX10_blank_0 : decode cX10_blank 0 = .ok (.aload_n 0, 1) := by decide +kernel
theorem dX10_blank_1 : decode cX10_blank 1 = .ok (.getfield 10, 3) := by decide +kernel
theorem dX10_blank_4 : decode cX10_blank 4 = .ok (.getfield 82, 3) := by decide +kernel
theorem dX10_blank_7 : decode cX10_blank 7 = .ok (.istore_n 1, 1) := by decide +kernel
theorem dX10_blank_8 : decode cX10_blank 8 = .ok (.aload_n 0, 1) := by decide +kernel
theorem dX10_blank_9 : decode cX10_blank 9 = .ok (.getfield 10, 3) := by decide +kernel
theorem dX10_blank_12 : decode cX10_blank 12 = .ok (.iconst 0, 1) := by decide +kernel
theorem dX10_blank_13 : decode cX10_blank 13 = .ok (.putfield 82, 3) := by decide +kernel
theorem dX10_blank_16 : decode cX10_blank 16 = .ok (.iload_n 1, 1) := by decide +kernel
theorem dX10_blank_17 : decode cX10_blank 17 = .ok (.ireturn, 1) := by decide +kernel
set_option maxRecDepth 20000 in
theorem ggX10_fault_X4_firstFault : GoodIn wsX10_fault wsX4_firstFault := goodIn_r _ [6, 7, 8, 9, 10, 11, 12, 13, 14, 15, 16, 17, 18, 19, 20, 21, 22, 23, 24, 25, 26, 27, 28, 29, 30, 31, 32, 33, 34, 35, 36, 37, 38, 39, 40, 41, 57, 58, 59, 60, 61, 62, 63, 64] (by decide +kernel) (by decide +kernel)
set_option maxRecDepth 20000 in
theorem gX10_fault_X4_firstFault : GoodIn wsX10_fault (wsV RX10 89 RX4 yX4_firstFault wsX4_firstFault) := goodIn_app (goodIn_of _ (by decide +kernel)) ggX10_fault_X4_firstFault
theorem dX10_fault_0 : decode cX10_fault 0 = .ok (.aload_n 0, 1) := by decide +kernel
theorem dX10_fault_1 : decode cX10_fault 1 = .ok (.getfield 10, 3) := by decide +kernel
theorem dX10_fault_4 : decode cX10_fault 4 = .ok (.invokevirtual 89, 3) := by decide +kernel
theorem dX10_fault_7 : decode cX10_fault 7 = .ok (.ireturn, 1) := by decide +kernel
set_option maxRecDepth 20000 in
theorem ggX10_mine_X4_isMine : GoodIn wsX10_mine wsX4_isMine := goodIn_r _ [13, 14, 15, 16, 17, 18, 12, 19, 20, 21, 22, 23, 24, 25, 26, 27, 28, 29, 30, 31, 32, 33, 34, 35, 36, 37, 38, 39, 40, 41, 42, 43, 44, 45, 46, 47, 48, 49, 50, 51, 52, 53, 54, 55, 56, 57, 58, 59, 60, 61, 62, 63, 203, 204, 205, 215, 216, 217, 218, 219] (by decide +kernel) (by decide +kernel)
set_option maxRecDepth 20000 in
theorem gX10_mine_X4_isMine : GoodIn wsX10_mine (wsV RX10 93 RX4 yX4_isMine wsX4_isMine) := goodIn_app (goodIn_of _ (by decide +kernel)) ggX10_mine_X4_isMine
set_option maxRecDepth 20000 in
theorem ggX10_mine_X5_readFrom : GoodIn wsX10_mine wsX5_readFrom := goodIn_r _ [68, 69, 70, 71, 72, 73, 74, 75, 30, 31, 32, 33, 34, 76, 77, 78, 12, 79, 20, 29, 80, 81, 82, 83, 84, 85, 86, 67, 87, 88, 89, 90, 91, 92, 93, 94, 208, 209, 210, 211, 212, 213, 214, 203, 204, 205, 219] (by decide +kernel) (by decide +kernel)
set_option maxRecDepth 20000 in
theorem gX10_mine_X5_readFrom : GoodIn wsX10_mine (wsV RX10 97 RX5 yX5_readFrom wsX5_readFrom) := goodIn_app (goodIn_of _ (by decide +kernel)) ggX10_mine_X5_readFrom
set_option maxRecDepth 20000 in
theorem ggX10_mine_X5_allGalleries : GoodIn wsX10_mine wsX5_allGalleries := goodIn_r _ [98, 69, 208, 209, 210, 211, 212, 213, 214] (by decide +kernel) (by decide +kernel)
set_option maxRecDepth 20000 in
theorem gX10_mine_X5_allGalleries : GoodIn wsX10_mine (wsV RX10 104 RX5 yX5_allGalleries wsX5_allGalleries) := goodIn_app (goodIn_of _ (by decide +kernel)) ggX10_mine_X5_allGalleries
set_option maxRecDepth 20000 in
theorem ggX10_mine_X3_begin : GoodIn wsX10_mine wsX3_begin := goodIn_r _ [103, 104, 105, 106, 107, 108, 109, 92, 93, 32, 94, 34, 220, 221, 222, 223, 224, 225, 219] (by decide +kernel) (by decide +kernel)
set_option maxRecDepth 20000 in
theorem gX10_mine_X3_begin : GoodIn wsX10_mine (wsV RX10 107 RX3 yX3_begin wsX3_begin) := goodIn_app (goodIn_of _ (by decide +kernel)) ggX10_mine_X3_begin
set_option maxRecDepth 20000 in
theorem ggX10_mine_X10_windChanges : GoodIn wsX10_mine wsX10_windChanges := goodIn_r _ [113, 114, 2, 6, 115, 116, 117, 118, 119, 120, 121, 122, 123, 124, 125, 126, 127, 128, 129, 130, 131, 132, 133, 81, 82, 32, 83, 34, 51, 41, 52, 134, 30, 31, 33, 135, 136, 137, 138, 139, 140, 141, 142, 58, 59, 60, 61, 62, 63, 143, 144, 145, 67, 146, 88, 75, 147, 148, 149, 150, 151, 152, 153, 154, 155, 156, 157, 158, 159, 160, 161, 162, 163, 164, 165, 166, 167, 168, 92, 93, 94, 169, 170, 171, 172, 173, 72, 73, 174, 175, 176, 177, 178, 179, 180, 181, 182, 183, 184, 185, 186, 187, 188, 189, 190, 191, 192, 193, 194, 195, 196, 197, 198, 199, 200, 201, 202, 220, 221, 222, 223, 224, 225, 226, 227, 228, 229, 208, 209, 210, 211, 212, 213, 214, 219, 230] (by decide +kernel) (by decide +kernel)
set_option maxRecDepth 20000 in
theorem gX10_mine_X10_windChanges : GoodIn wsX10_mine (wsV RX10 114 RX10 yX10_windChanges wsX10_windChanges) := goodIn_app (goodIn_of _ (by decide +kernel)) ggX10_mine_X10_windChanges
theorem dX10_mine_0 : decode cX10_mine 0 = .ok (.aload_n 0, 1) := by decide +kernel
theorem dX10_mine_1 : decode cX10_mine 1 = .ok (.getfield 10, 3) := by decide +kernel
theorem dX10_mine_4 : decode cX10_mine 4 = .ok (.invokevirtual 93, 3) := by decide +kernel
theorem dX10_mine_7 : decode cX10_mine 7 = .ok (.ifCond .ne 6, 3) := by decide +kernel
theorem dX10_mine_10 : decode cX10_mine 10 = .ok (.bipush (-103), 2) := by decide +kernel
theorem dX10_mine_12 : decode cX10_mine 12 = .ok (.ireturn, 1) := by decide +kernel
theorem dX10_mine_13 : decode cX10_mine 13 = .ok (.aload_n 0, 1) := by decide +kernel
theorem dX10_mine_14 : decode cX10_mine 14 = .ok (.getfield 19, 3) := by decide +kernel
theorem dX10_mine_17 : decode cX10_mine 17 = .ok (.aload_n 0, 1) := by decide +kernel
theorem dX10_mine_18 : decode cX10_mine 18 = .ok (.getfield 10, 3) := by decide +kernel
theorem dX10_mine_21 : decode cX10_mine 21 = .ok (.invokevirtual 97, 3) := by decide +kernel
theorem dX10_mine_24 : decode cX10_mine 24 = .ok (.aload_n 0, 1) := by decide +kernel
theorem dX10_mine_25 : decode cX10_mine 25 = .ok (.getfield 10, 3) := by decide +kernel
theorem dX10_mine_28 : decode cX10_mine 28 = .ok (.iconst 0, 1) := by decide +kernel
theorem dX10_mine_29 : decode cX10_mine 29 = .ok (.putfield 82, 3) := by decide +kernel
theorem dX10_mine_32 : decode cX10_mine 32 = .ok (.aload_n 0, 1) := by decide +kernel
theorem dX10_mine_33 : decode cX10_mine 33 = .ok (.getfield 43, 3) := by decide +kernel
theorem dX10_mine_36 : decode cX10_mine 36 = .ok (.iconst 0, 1) := by decide +kernel
theorem dX10_mine_37 : decode cX10_mine 37 = .ok (.putfield 101, 3) := by decide +kernel
theorem dX10_mine_40 : decode cX10_mine 40 = .ok (.aload_n 0, 1) := by decide +kernel
theorem dX10_mine_41 : decode cX10_mine 41 = .ok (.getfield 50, 3) := by decide +kernel
theorem dX10_mine_44 : decode cX10_mine 44 = .ok (.aload_n 0, 1) := by decide +kernel
theorem dX10_mine_45 : decode cX10_mine 45 = .ok (.getfield 19, 3) := by decide +kernel
theorem dX10_mine_48 : decode cX10_mine 48 = .ok (.invokevirtual 104, 3) := by decide +kernel
theorem dX10_mine_51 : decode cX10_mine 51 = .ok (.invokevirtual 107, 3) := by decide +kernel
theorem dX10_mine_54 : decode cX10_mine 54 = .ok (.aload_n 0, 1) := by decide +kernel
theorem dX10_mine_55 : decode cX10_mine 55 = .ok (.dup, 1) := by decide +kernel
theorem dX10_mine_56 : decode cX10_mine 56 = .ok (.getfield 111, 3) := by decide +kernel
theorem dX10_mine_59 : decode cX10_mine 59 = .ok (.iconst 1, 1) := by decide +kernel
theorem dX10_mine_60 : decode cX10_mine 60 = .ok (.iadd, 1) := by decide +kernel
theorem dX10_mine_61 : decode cX10_mine 61 = .ok (.putfield 111, 3) := by decide +kernel
theorem dX10_mine_64 : decode cX10_mine 64 = .ok (.aload_n 0, 1) := by decide +kernel
theorem dX10_mine_65 : decode cX10_mine 65 = .ok (.invokevirtual 114, 3) := by decide +kernel
theorem dX10_mine_68 : decode cX10_mine 68 = .ok (.aload_n 0, 1) := by decide +kernel
theorem dX10_mine_69 : decode cX10_mine 69 = .ok (.getfield 19, 3) := by decide +kernel
theorem dX10_mine_72 : decode cX10_mine 72 = .ok (.getfield 117, 3) := by decide +kernel
theorem dX10_mine_75 : decode cX10_mine 75 = .ok (.ireturn, 1) := by decide +kernel
set_option maxRecDepth 20000 in
theorem ggX10_gallery_X5_hasGallery : GoodIn wsX10_gallery wsX5_hasGallery := goodIn_r _ [14, 15, 41, 42, 43, 44, 45, 46, 47] (by decide +kernel) (by decide +kernel)
set_option maxRecDepth 20000 in
theorem gX10_gallery_X5_hasGallery : GoodIn wsX10_gallery (wsV RX10 120 RX5 yX5_hasGallery wsX5_hasGallery) := goodIn_app (goodIn_of _ (by decide +kernel)) ggX10_gallery_X5_hasGallery
set_option maxRecDepth 20000 in
theorem ggX10_gallery_X8_get : GoodIn wsX10_gallery wsX8_get := goodIn_r _ [20, 21, 58] (by decide +kernel) (by decide +kernel)
set_option maxRecDepth 20000 in
theorem gX10_gallery_X8_get : GoodIn wsX10_gallery (wsV RX10 128 RX8 yX8_get wsX8_get) := goodIn_app (goodIn_of _ (by decide +kernel)) ggX10_gallery_X8_get
set_option maxRecDepth 20000 in
theorem ggX10_gallery_X10_bit : GoodIn wsX10_gallery wsX10_bit := goodIn_r _ [25] (by decide +kernel) (by decide +kernel)
set_option maxRecDepth 20000 in
theorem gX10_gallery_X10_bit : GoodIn wsX10_gallery (va_wsS RX10 142 yX10_bit wsX10_bit) := goodIn_app (goodIn_of _ (by decide +kernel)) ggX10_gallery_X10_bit
theorem dX10_gallery_0 : decode cX10_gallery 0 = .ok (.aload_n 0, 1) := by decide +kernel
theorem dX10_gallery_1 : decode cX10_gallery 1 = .ok (.getfield 19, 3) := by decide +kernel
theorem dX10_gallery_4 : decode cX10_gallery 4 = .ok (.iload_n 1, 1) := by decide +kernel
theorem dX10_gallery_5 : decode cX10_gallery 5 = .ok (.invokevirtual 120, 3) := by decide +kernel
theorem dX10_gallery_8 : decode cX10_gallery 8 = .ok (.ifCond .ne 6, 3) := by decide +kernel
theorem dX10_gallery_11 : decode cX10_gallery 11 = .ok (.bipush (-101), 2) := by decide +kernel
theorem dX10_gallery_13 : decode cX10_gallery 13 = .ok (.ireturn, 1) := by decide +kernel
theorem dX10_gallery_14 : decode cX10_gallery 14 = .ok (.iload_n 2, 1) := by decide +kernel
theorem dX10_gallery_15 : decode cX10_gallery 15 = .ok (.tableswitch 109 0 5 #[37, 49, 61, 73, 85, 97], 37) := by decide +kernel
theorem dX10_gallery_52 : decode cX10_gallery 52 = .ok (.aload_n 0, 1) := by decide +kernel
theorem dX10_gallery_53 : decode cX10_gallery 53 = .ok (.getfield 19, 3) := by decide +kernel
theorem dX10_gallery_56 : decode cX10_gallery 56 = .ok (.getfield 124, 3) := by decide +kernel
theorem dX10_gallery_59 : decode cX10_gallery 59 = .ok (.iload_n 1, 1) := by decide +kernel
theorem dX10_gallery_60 : decode cX10_gallery 60 = .ok (.invokevirtual 128, 3) := by decide +kernel
theorem dX10_gallery_63 : decode cX10_gallery 63 = .ok (.ireturn, 1) := by decide +kernel
theorem dX10_gallery_64 : decode cX10_gallery 64 = .ok (.aload_n 0, 1) := by decide +kernel
theorem dX10_gallery_65 : decode cX10_gallery 65 = .ok (.getfield 19, 3) := by decide +kernel
theorem dX10_gallery_68 : decode cX10_gallery 68 = .ok (.getfield 134, 3) := by decide +kernel
theorem dX10_gallery_71 : decode cX10_gallery 71 = .ok (.iload_n 1, 1) := by decide +kernel
theorem dX10_gallery_72 : decode cX10_gallery 72 = .ok (.invokevirtual 128, 3) := by decide +kernel
theorem dX10_gallery_75 : decode cX10_gallery 75 = .ok (.ireturn, 1) := by decide +kernel
theorem dX10_gallery_76 : decode cX10_gallery 76 = .ok (.aload_n 0, 1) := by decide +kernel
theorem dX10_gallery_77 : decode cX10_gallery 77 = .ok (.getfield 19, 3) := by decide +kernel
theorem dX10_gallery_80 : decode cX10_gallery 80 = .ok (.getfield 137, 3) := by decide +kernel
theorem dX10_gallery_83 : decode cX10_gallery 83 = .ok (.iload_n 1, 1) := by decide +kernel
theorem dX10_gallery_84 : decode cX10_gallery 84 = .ok (.invokevirtual 128, 3) := by decide +kernel
theorem dX10_gallery_87 : decode cX10_gallery 87 = .ok (.ireturn, 1) := by decide +kernel
theorem dX10_gallery_88 : decode cX10_gallery 88 = .ok (.aload_n 0, 1) := by decide +kernel
theorem dX10_gallery_89 : decode cX10_gallery 89 = .ok (.getfield 19, 3) := by decide +kernel
theorem dX10_gallery_92 : decode cX10_gallery 92 = .ok (.getfield 139, 3) := by decide +kernel
theorem dX10_gallery_95 : decode cX10_gallery 95 = .ok (.iload_n 1, 1) := by decide +kernel
theorem dX10_gallery_96 : decode cX10_gallery 96 = .ok (.invokestatic 142, 3) := by decide +kernel
theorem dX10_gallery_99 : decode cX10_gallery 99 = .ok (.ireturn, 1) := by decide +kernel
theorem dX10_gallery_100 : decode cX10_gallery 100 = .ok (.aload_n 0, 1) := by decide +kernel
theorem dX10_gallery_101 : decode cX10_gallery 101 = .ok (.getfield 50, 3) := by decide +kernel
theorem dX10_gallery_104 : decode cX10_gallery 104 = .ok (.getfield 146, 3) := by decide +kernel
theorem dX10_gallery_107 : decode cX10_gallery 107 = .ok (.iload_n 1, 1) := by decide +kernel
theorem dX10_gallery_108 : decode cX10_gallery 108 = .ok (.invokestatic 142, 3) := by decide +kernel
theorem dX10_gallery_111 : decode cX10_gallery 111 = .ok (.ireturn, 1) := by decide +kernel
theorem dX10_gallery_112 : decode cX10_gallery 112 = .ok (.aload_n 0, 1) := by decide +kernel
theorem dX10_gallery_113 : decode cX10_gallery 113 = .ok (.getfield 26, 3) := by decide +kernel
theorem dX10_gallery_116 : decode cX10_gallery 116 = .ok (.getfield 149, 3) := by decide +kernel
theorem dX10_gallery_119 : decode cX10_gallery 119 = .ok (.iload_n 1, 1) := by decide +kernel
theorem dX10_gallery_120 : decode cX10_gallery 120 = .ok (.invokevirtual 128, 3) := by decide +kernel
theorem dX10_gallery_123 : decode cX10_gallery 123 = .ok (.ireturn, 1) := by decide +kernel
theorem dX10_gallery_124 : decode cX10_gallery 124 = .ok (.bipush (-102), 2) := by decide +kernel
theorem dX10_gallery_126 : decode cX10_gallery 126 = .ok (.ireturn, 1) := by decide +kernel
set_option maxRecDepth 20000 in
theorem ggX10_knot_X5_isRead : GoodIn wsX10_knot wsX5_isRead := goodIn_r _ [12, 13, 42, 43, 44, 45, 46, 47, 48] (by decide +kernel) (by decide +kernel)
set_option maxRecDepth 20000 in
theorem gX10_knot_X5_isRead : GoodIn wsX10_knot (wsV RX10 152 RX5 yX5_isRead wsX5_isRead) := goodIn_app (goodIn_of _ (by decide +kernel)) ggX10_knot_X5_isRead
set_option maxRecDepth 20000 in
theorem ggX10_knot_X10_isKnot : GoodIn wsX10_knot wsX10_isKnot := goodIn_r _ [17] (by decide +kernel) (by decide +kernel)
set_option maxRecDepth 20000 in
theorem gX10_knot_X10_isKnot : GoodIn wsX10_knot (va_wsS RX10 155 yX10_isKnot wsX10_isKnot) := goodIn_app (goodIn_of _ (by decide +kernel)) ggX10_knot_X10_isKnot
set_option maxRecDepth 20000 in
theorem ggX10_knot_X8_get : GoodIn wsX10_knot wsX8_get := goodIn_r _ [22, 23, 59] (by decide +kernel) (by decide +kernel)
set_option maxRecDepth 20000 in
theorem gX10_knot_X8_get : GoodIn wsX10_knot (wsV RX10 128 RX8 yX8_get wsX8_get) := goodIn_app (goodIn_of _ (by decide +kernel)) ggX10_knot_X8_get
set_option maxRecDepth 20000 in
theorem ggX10_knot_X10_bit : GoodIn wsX10_knot wsX10_bit := goodIn_r _ [26] (by decide +kernel) (by decide +kernel)
set_option maxRecDepth 20000 in
theorem gX10_knot_X10_bit : GoodIn wsX10_knot (va_wsS RX10 142 yX10_bit wsX10_bit) := goodIn_app (goodIn_of _ (by decide +kernel)) ggX10_knot_X10_bit
theorem dX10_knot_0 : decode cX10_knot 0 = .ok (.aload_n 0, 1) := by decide +kernel
theorem dX10_knot_1 : decode cX10_knot 1 = .ok (.getfield 19, 3) := by decide +kernel
theorem dX10_knot_4 : decode cX10_knot 4 = .ok (.invokevirtual 152, 3) := by decide +kernel
theorem dX10_knot_7 : decode cX10_knot 7 = .ok (.ifCond .eq 10, 3) := by decide +kernel
theorem dX10_knot_10 : decode cX10_knot 10 = .ok (.iload_n 1, 1) := by decide +kernel
theorem dX10_knot_11 : decode cX10_knot 11 = .ok (.invokestatic 155, 3) := by decide +kernel
theorem dX10_knot_14 : decode cX10_knot 14 = .ok (.ifCond .ne 6, 3) := by decide +kernel
theorem dX10_knot_17 : decode cX10_knot 17 = .ok (.bipush (-101), 2) := by decide +kernel
theorem dX10_knot_19 : decode cX10_knot 19 = .ok (.ireturn, 1) := by decide +kernel
theorem dX10_knot_20 : decode cX10_knot 20 = .ok (.iload_n 2, 1) := by decide +kernel
theorem dX10_knot_21 : decode cX10_knot 21 = .ok (.tableswitch 79 0 3 #[31, 43, 55, 67], 31) := by decide +kernel
theorem dX10_knot_52 : decode cX10_knot 52 = .ok (.aload_n 0, 1) := by decide +kernel
theorem dX10_knot_53 : decode cX10_knot 53 = .ok (.getfield 19, 3) := by decide +kernel
theorem dX10_knot_56 : decode cX10_knot 56 = .ok (.getfield 158, 3) := by decide +kernel
theorem dX10_knot_59 : decode cX10_knot 59 = .ok (.iload_n 1, 1) := by decide +kernel
theorem dX10_knot_60 : decode cX10_knot 60 = .ok (.invokevirtual 128, 3) := by decide +kernel
theorem dX10_knot_63 : decode cX10_knot 63 = .ok (.ireturn, 1) := by decide +kernel
theorem dX10_knot_64 : decode cX10_knot 64 = .ok (.aload_n 0, 1) := by decide +kernel
theorem dX10_knot_65 : decode cX10_knot 65 = .ok (.getfield 26, 3) := by decide +kernel
theorem dX10_knot_68 : decode cX10_knot 68 = .ok (.getfield 161, 3) := by decide +kernel
theorem dX10_knot_71 : decode cX10_knot 71 = .ok (.iload_n 1, 1) := by decide +kernel
theorem dX10_knot_72 : decode cX10_knot 72 = .ok (.invokevirtual 128, 3) := by decide +kernel
theorem dX10_knot_75 : decode cX10_knot 75 = .ok (.ireturn, 1) := by decide +kernel
theorem dX10_knot_76 : decode cX10_knot 76 = .ok (.aload_n 0, 1) := by decide +kernel
theorem dX10_knot_77 : decode cX10_knot 77 = .ok (.getfield 26, 3) := by decide +kernel
theorem dX10_knot_80 : decode cX10_knot 80 = .ok (.getfield 164, 3) := by decide +kernel
theorem dX10_knot_83 : decode cX10_knot 83 = .ok (.iload_n 1, 1) := by decide +kernel
theorem dX10_knot_84 : decode cX10_knot 84 = .ok (.invokestatic 142, 3) := by decide +kernel
theorem dX10_knot_87 : decode cX10_knot 87 = .ok (.ireturn, 1) := by decide +kernel
theorem dX10_knot_88 : decode cX10_knot 88 = .ok (.aload_n 0, 1) := by decide +kernel
theorem dX10_knot_89 : decode cX10_knot 89 = .ok (.getfield 50, 3) := by decide +kernel
theorem dX10_knot_92 : decode cX10_knot 92 = .ok (.getfield 167, 3) := by decide +kernel
theorem dX10_knot_95 : decode cX10_knot 95 = .ok (.iload_n 1, 1) := by decide +kernel
theorem dX10_knot_96 : decode cX10_knot 96 = .ok (.invokevirtual 128, 3) := by decide +kernel
theorem dX10_knot_99 : decode cX10_knot 99 = .ok (.ireturn, 1) := by decide +kernel
theorem dX10_knot_100 : decode cX10_knot 100 = .ok (.bipush (-102), 2) := by decide +kernel
theorem dX10_knot_102 : decode cX10_knot 102 = .ok (.ireturn, 1) := by decide +kernel
set_option maxRecDepth 20000 in
theorem ggX10_door_X5_hasGallery : GoodIn wsX10_door wsX5_hasGallery := goodIn_r _ [9, 10, 128, 129, 130, 131, 132, 133, 134] (by decide +kernel) (by decide +kernel)
set_option maxRecDepth 20000 in
theorem gX10_door_X5_hasGallery : GoodIn wsX10_door (wsV RX10 120 RX5 yX5_hasGallery wsX5_hasGallery) := goodIn_app (goodIn_of _ (by decide +kernel)) ggX10_door_X5_hasGallery
set_option maxRecDepth 20000 in
theorem ggX10_door_X10_bit : GoodIn wsX10_door wsX10_bit := goodIn_r _ [14] (by decide +kernel) (by decide +kernel)
set_option maxRecDepth 20000 in
theorem gX10_door_X10_bit : GoodIn wsX10_door (va_wsS RX10 142 yX10_bit wsX10_bit) := goodIn_app (goodIn_of _ (by decide +kernel)) ggX10_door_X10_bit
set_option maxRecDepth 20000 in
theorem ggX10_door_X10_windChanges : GoodIn wsX10_door wsX10_windChanges := goodIn_r _ [18, 19, 1, 3, 4, 20, 21, 22, 23, 24, 25, 26, 27, 28, 29, 30, 31, 32, 33, 34, 35, 36, 37, 38, 39, 40, 41, 42, 12, 13, 14, 43, 44, 45, 46, 47, 48, 49, 50, 51, 52, 53, 54, 55, 56, 57, 58, 59, 60, 61, 62, 63, 8, 64, 65, 66, 67, 68, 69, 70, 71, 72, 73, 74, 75, 76, 77, 78, 79, 80, 81, 82, 83, 84, 85, 86, 87, 88, 89, 90, 91, 92, 93, 94, 95, 96, 97, 98, 99, 100, 101, 102, 103, 104, 105, 106, 107, 108, 109, 110, 111, 112, 113, 114, 115, 116, 117, 118, 119, 120, 121, 122, 123, 124, 125, 126, 127, 135, 136, 137, 138, 139, 140, 141, 142, 143, 144, 128, 129, 130, 131, 132, 133, 134, 145, 146] (by decide +kernel) (by decide +kernel)
set_option maxRecDepth 20000 in
theorem gX10_door_X10_windChanges : GoodIn wsX10_door (wsV RX10 114 RX10 yX10_windChanges wsX10_windChanges) := goodIn_app (goodIn_of _ (by decide +kernel)) ggX10_door_X10_windChanges
theorem dX10_door_0 : decode cX10_door 0 = .ok (.aload_n 0, 1) := by decide +kernel
theorem dX10_door_1 : decode cX10_door 1 = .ok (.getfield 19, 3) := by decide +kernel
theorem dX10_door_4 : decode cX10_door 4 = .ok (.iload_n 1, 1) := by decide +kernel
theorem dX10_door_5 : decode cX10_door 5 = .ok (.invokevirtual 120, 3) := by decide +kernel
theorem dX10_door_8 : decode cX10_door 8 = .ok (.ifCond .ne 6, 3) := by decide +kernel
theorem dX10_door_11 : decode cX10_door 11 = .ok (.bipush (-101), 2) := by decide +kernel
theorem dX10_door_13 : decode cX10_door 13 = .ok (.ireturn, 1) := by decide +kernel
theorem dX10_door_14 : decode cX10_door 14 = .ok (.aload_n 0, 1) := by decide +kernel
theorem dX10_door_15 : decode cX10_door 15 = .ok (.getfield 19, 3) := by decide +kernel
theorem dX10_door_18 : decode cX10_door 18 = .ok (.getfield 139, 3) := by decide +kernel
theorem dX10_door_21 : decode cX10_door 21 = .ok (.iload_n 1, 1) := by decide +kernel
theorem dX10_door_22 : decode cX10_door 22 = .ok (.invokestatic 142, 3) := by decide +kernel
theorem dX10_door_25 : decode cX10_door 25 = .ok (.ifCond .ne 6, 3) := by decide +kernel
theorem dX10_door_28 : decode cX10_door 28 = .ok (.bipush (-103), 2) := by decide +kernel
theorem dX10_door_30 : decode cX10_door 30 = .ok (.ireturn, 1) := by decide +kernel
theorem dX10_door_31 : decode cX10_door 31 = .ok (.aload_n 0, 1) := by decide +kernel
theorem dX10_door_32 : decode cX10_door 32 = .ok (.getfield 50, 3) := by decide +kernel
theorem dX10_door_35 : decode cX10_door 35 = .ok (.getfield 146, 3) := by decide +kernel
theorem dX10_door_38 : decode cX10_door 38 = .ok (.iload_n 1, 1) := by decide +kernel
theorem dX10_door_39 : decode cX10_door 39 = .ok (.invokestatic 142, 3) := by decide +kernel
theorem dX10_door_42 : decode cX10_door 42 = .ok (.istore_n 3, 1) := by decide +kernel
theorem dX10_door_43 : decode cX10_door 43 = .ok (.aload_n 0, 1) := by decide +kernel
theorem dX10_door_44 : decode cX10_door 44 = .ok (.getfield 50, 3) := by decide +kernel
theorem dX10_door_47 : decode cX10_door 47 = .ok (.iload_n 2, 1) := by decide +kernel
theorem dX10_door_48 : decode cX10_door 48 = .ok (.ifCond .eq 17, 3) := by decide +kernel
theorem dX10_door_51 : decode cX10_door 51 = .ok (.aload_n 0, 1) := by decide +kernel
theorem dX10_door_52 : decode cX10_door 52 = .ok (.getfield 50, 3) := by decide +kernel
theorem dX10_door_55 : decode cX10_door 55 = .ok (.getfield 146, 3) := by decide +kernel
theorem dX10_door_58 : decode cX10_door 58 = .ok (.iconst 1, 1) := by decide +kernel
theorem dX10_door_59 : decode cX10_door 59 = .ok (.iload_n 1, 1) := by decide +kernel
theorem dX10_door_60 : decode cX10_door 60 = .ok (.ishl, 1) := by decide +kernel
theorem dX10_door_61 : decode cX10_door 61 = .ok (.ior, 1) := by decide +kernel
theorem dX10_door_62 : decode cX10_door 62 = .ok (.goto 16, 3) := by decide +kernel
theorem dX10_door_65 : decode cX10_door 65 = .ok (.aload_n 0, 1) := by decide +kernel
theorem dX10_door_66 : decode cX10_door 66 = .ok (.getfield 50, 3) := by decide +kernel
theorem dX10_door_69 : decode cX10_door 69 = .ok (.getfield 146, 3) := by decide +kernel
theorem dX10_door_72 : decode cX10_door 72 = .ok (.iconst 1, 1) := by decide +kernel
theorem dX10_door_73 : decode cX10_door 73 = .ok (.iload_n 1, 1) := by decide +kernel
theorem dX10_door_74 : decode cX10_door 74 = .ok (.ishl, 1) := by decide +kernel
theorem dX10_door_75 : decode cX10_door 75 = .ok (.iconst (-1), 1) := by decide +kernel
theorem dX10_door_76 : decode cX10_door 76 = .ok (.ixor, 1) := by decide +kernel
theorem dX10_door_77 : decode cX10_door 77 = .ok (.iand, 1) := by decide +kernel
theorem dX10_door_78 : decode cX10_door 78 = .ok (.putfield 146, 3) := by decide +kernel
theorem dX10_door_81 : decode cX10_door 81 = .ok (.aload_n 0, 1) := by decide +kernel
theorem dX10_door_82 : decode cX10_door 82 = .ok (.invokevirtual 114, 3) := by decide +kernel
theorem dX10_door_85 : decode cX10_door 85 = .ok (.iload_n 3, 1) := by decide +kernel
theorem dX10_door_86 : decode cX10_door 86 = .ok (.ireturn, 1) := by decide +kernel
set_option maxRecDepth 20000 in
theorem ggX10_turn_X5_isRead : GoodIn wsX10_turn wsX5_isRead := goodIn_r _ [8, 9, 132, 133, 134, 135, 136, 137, 138] (by decide +kernel) (by decide +kernel)
set_option maxRecDepth 20000 in
theorem gX10_turn_X5_isRead : GoodIn wsX10_turn (wsV RX10 152 RX5 yX5_isRead wsX5_isRead) := goodIn_app (goodIn_of _ (by decide +kernel)) ggX10_turn_X5_isRead
set_option maxRecDepth 20000 in
theorem ggX10_turn_X10_windChanges : GoodIn wsX10_turn wsX10_windChanges := goodIn_r _ [14, 15, 1, 2, 16, 3, 17, 18, 19, 20, 21, 22, 23, 24, 25, 26, 27, 28, 29, 30, 31, 32, 33, 34, 35, 36, 37, 38, 39, 13, 40, 41, 42, 43, 44, 45, 46, 47, 48, 49, 50, 51, 52, 53, 54, 55, 56, 57, 58, 59, 60, 61, 7, 62, 63, 64, 65, 66, 67, 68, 69, 70, 71, 72, 73, 74, 75, 76, 77, 78, 79, 80, 81, 82, 83, 84, 85, 86, 87, 88, 89, 90, 91, 92, 93, 94, 95, 96, 97, 98, 99, 100, 101, 102, 103, 104, 105, 106, 107, 108, 109, 110, 111, 112, 113, 114, 115, 116, 117, 118, 119, 120, 121, 122, 123, 124, 125, 126, 127, 128, 129, 130, 131, 139, 140, 141, 142, 132, 133, 134, 135, 136, 137, 138, 143, 144] (by decide +kernel) (by decide +kernel)
set_option maxRecDepth 20000 in
theorem gX10_turn_X10_windChanges : GoodIn wsX10_turn (wsV RX10 114 RX10 yX10_windChanges wsX10_windChanges) := goodIn_app (goodIn_of _ (by decide +kernel)) ggX10_turn_X10_windChanges
theorem dX10_turn_0 : decode cX10_turn 0 = .ok (.aload_n 0, 1) := by decide +kernel
theorem dX10_turn_1 : decode cX10_turn 1 = .ok (.getfield 19, 3) := by decide +kernel
theorem dX10_turn_4 : decode cX10_turn 4 = .ok (.invokevirtual 152, 3) := by decide +kernel
theorem dX10_turn_7 : decode cX10_turn 7 = .ok (.ifCond .ne 6, 3) := by decide +kernel
theorem dX10_turn_10 : decode cX10_turn 10 = .ok (.bipush (-103), 2) := by decide +kernel
theorem dX10_turn_12 : decode cX10_turn 12 = .ok (.ireturn, 1) := by decide +kernel
theorem dX10_turn_13 : decode cX10_turn 13 = .ok (.aload_n 0, 1) := by decide +kernel
theorem dX10_turn_14 : decode cX10_turn 14 = .ok (.getfield 50, 3) := by decide +kernel
theorem dX10_turn_17 : decode cX10_turn 17 = .ok (.aload_n 0, 1) := by decide +kernel
theorem dX10_turn_18 : decode cX10_turn 18 = .ok (.getfield 50, 3) := by decide +kernel
theorem dX10_turn_21 : decode cX10_turn 21 = .ok (.getfield 170, 3) := by decide +kernel
theorem dX10_turn_24 : decode cX10_turn 24 = .ok (.ifCond .ne 7, 3) := by decide +kernel
theorem dX10_turn_27 : decode cX10_turn 27 = .ok (.iconst 1, 1) := by decide +kernel
theorem dX10_turn_28 : decode cX10_turn 28 = .ok (.goto 4, 3) := by decide +kernel
theorem dX10_turn_31 : decode cX10_turn 31 = .ok (.iconst 0, 1) := by decide +kernel
theorem dX10_turn_32 : decode cX10_turn 32 = .ok (.putfield 170, 3) := by decide +kernel
theorem dX10_turn_35 : decode cX10_turn 35 = .ok (.aload_n 0, 1) := by decide +kernel
theorem dX10_turn_36 : decode cX10_turn 36 = .ok (.invokevirtual 114, 3) := by decide +kernel
theorem dX10_turn_39 : decode cX10_turn 39 = .ok (.aload_n 0, 1) := by decide +kernel
theorem dX10_turn_40 : decode cX10_turn 40 = .ok (.getfield 50, 3) := by decide +kernel
theorem dX10_turn_43 : decode cX10_turn 43 = .ok (.getfield 170, 3) := by decide +kernel
theorem dX10_turn_46 : decode cX10_turn 46 = .ok (.ifCond .eq 7, 3) := by decide +kernel
theorem dX10_turn_49 : decode cX10_turn 49 = .ok (.iconst 1, 1) := by decide +kernel
theorem dX10_turn_50 : decode cX10_turn 50 = .ok (.goto 4, 3) := by decide +kernel
theorem dX10_turn_53 : decode cX10_turn 53 = .ok (.iconst 0, 1) := by decide +kernel
theorem dX10_turn_54 : decode cX10_turn 54 = .ok (.ireturn, 1) := by decide +kernel
set_option maxRecDepth 20000 in
theorem ggX10_man_X5_isRead : GoodIn wsX10_man wsX5_isRead := goodIn_r _ [11, 12, 50, 51, 52, 53, 54, 55, 56] (by decide +kernel) (by decide +kernel)
set_option maxRecDepth 20000 in
theorem gX10_man_X5_isRead : GoodIn wsX10_man (wsV RX10 152 RX5 yX5_isRead wsX5_isRead) := goodIn_app (goodIn_of _ (by decide +kernel)) ggX10_man_X5_isRead
set_option maxRecDepth 20000 in
theorem ggX10_man_X1_isKind : GoodIn wsX10_man wsX1_isKind := goodIn_r _ [16] (by decide +kernel) (by decide +kernel)
set_option maxRecDepth 20000 in
theorem gX10_man_X1_isKind : GoodIn wsX10_man (va_wsS RX10 174 yX1_isKind wsX1_isKind) := goodIn_app (goodIn_of _ (by decide +kernel)) ggX10_man_X1_isKind
set_option maxRecDepth 20000 in
theorem ggX10_man_X10_isKnot : GoodIn wsX10_man wsX10_isKnot := goodIn_r _ [20] (by decide +kernel) (by decide +kernel)
set_option maxRecDepth 20000 in
theorem gX10_man_X10_isKnot : GoodIn wsX10_man (va_wsS RX10 155 yX10_isKnot wsX10_isKnot) := goodIn_app (goodIn_of _ (by decide +kernel)) ggX10_man_X10_isKnot
set_option maxRecDepth 20000 in
theorem ggX10_man_X8_set : GoodIn wsX10_man wsX8_set := goodIn_r _ [25, 26, 57] (by decide +kernel) (by decide +kernel)
set_option maxRecDepth 20000 in
theorem gX10_man_X8_set : GoodIn wsX10_man (wsV RX10 180 RX8 yX8_set wsX8_set) := goodIn_app (goodIn_of _ (by decide +kernel)) ggX10_man_X8_set
theorem dX10_man_0 : decode cX10_man 0 = .ok (.aload_n 0, 1) := by decide +kernel
theorem dX10_man_1 : decode cX10_man 1 = .ok (.getfield 19, 3) := by decide +kernel
theorem dX10_man_4 : decode cX10_man 4 = .ok (.invokevirtual 152, 3) := by decide +kernel
theorem dX10_man_7 : decode cX10_man 7 = .ok (.ifCond .ne 6, 3) := by decide +kernel
theorem dX10_man_10 : decode cX10_man 10 = .ok (.bipush (-103), 2) := by decide +kernel
theorem dX10_man_12 : decode cX10_man 12 = .ok (.ireturn, 1) := by decide +kernel
theorem dX10_man_13 : decode cX10_man 13 = .ok (.iload_n 1, 1) := by decide +kernel
theorem dX10_man_14 : decode cX10_man 14 = .ok (.invokestatic 174, 3) := by decide +kernel
theorem dX10_man_17 : decode cX10_man 17 = .ok (.ifCond .ne 6, 3) := by decide +kernel
theorem dX10_man_20 : decode cX10_man 20 = .ok (.bipush (-102), 2) := by decide +kernel
theorem dX10_man_22 : decode cX10_man 22 = .ok (.ireturn, 1) := by decide +kernel
theorem dX10_man_23 : decode cX10_man 23 = .ok (.iload_n 2, 1) := by decide +kernel
theorem dX10_man_24 : decode cX10_man 24 = .ok (.invokestatic 155, 3) := by decide +kernel
theorem dX10_man_27 : decode cX10_man 27 = .ok (.ifCond .ne 6, 3) := by decide +kernel
theorem dX10_man_30 : decode cX10_man 30 = .ok (.bipush (-101), 2) := by decide +kernel
theorem dX10_man_32 : decode cX10_man 32 = .ok (.ireturn, 1) := by decide +kernel
theorem dX10_man_33 : decode cX10_man 33 = .ok (.aload_n 0, 1) := by decide +kernel
theorem dX10_man_34 : decode cX10_man 34 = .ok (.getfield 43, 3) := by decide +kernel
theorem dX10_man_37 : decode cX10_man 37 = .ok (.getfield 101, 3) := by decide +kernel
theorem dX10_man_40 : decode cX10_man 40 = .ok (.bipush 6, 2) := by decide +kernel
theorem dX10_man_42 : decode cX10_man 42 = .ok (.if_icmp .lt 6, 3) := by decide +kernel
theorem dX10_man_45 : decode cX10_man 45 = .ok (.bipush (-104), 2) := by decide +kernel
theorem dX10_man_47 : decode cX10_man 47 = .ok (.ireturn, 1) := by decide +kernel
theorem dX10_man_48 : decode cX10_man 48 = .ok (.aload_n 0, 1) := by decide +kernel
theorem dX10_man_49 : decode cX10_man 49 = .ok (.getfield 43, 3) := by decide +kernel
theorem dX10_man_52 : decode cX10_man 52 = .ok (.getfield 101, 3) := by decide +kernel
theorem dX10_man_55 : decode cX10_man 55 = .ok (.istore_n 3, 1) := by decide +kernel
theorem dX10_man_56 : decode cX10_man 56 = .ok (.aload_n 0, 1) := by decide +kernel
theorem dX10_man_57 : decode cX10_man 57 = .ok (.getfield 43, 3) := by decide +kernel
theorem dX10_man_60 : decode cX10_man 60 = .ok (.getfield 177, 3) := by decide +kernel
theorem dX10_man_63 : decode cX10_man 63 = .ok (.iload_n 3, 1) := by decide +kernel
theorem dX10_man_64 : decode cX10_man 64 = .ok (.iload_n 1, 1) := by decide +kernel
theorem dX10_man_65 : decode cX10_man 65 = .ok (.invokevirtual 180, 3) := by decide +kernel
theorem dX10_man_68 : decode cX10_man 68 = .ok (.aload_n 0, 1) := by decide +kernel
theorem dX10_man_69 : decode cX10_man 69 = .ok (.getfield 43, 3) := by decide +kernel
theorem dX10_man_72 : decode cX10_man 72 = .ok (.dup, 1) := by decide +kernel
theorem dX10_man_73 : decode cX10_man 73 = .ok (.getfield 101, 3) := by decide +kernel
theorem dX10_man_76 : decode cX10_man 76 = .ok (.iconst 1, 1) := by decide +kernel
theorem dX10_man_77 : decode cX10_man 77 = .ok (.iadd, 1) := by decide +kernel
theorem dX10_man_78 : decode cX10_man 78 = .ok (.putfield 101, 3) := by decide +kernel
theorem dX10_man_81 : decode cX10_man 81 = .ok (.aload_n 0, 1) := by decide +kernel
theorem dX10_man_82 : decode cX10_man 82 = .ok (.getfield 50, 3) := by decide +kernel
theorem dX10_man_85 : decode cX10_man 85 = .ok (.getfield 184, 3) := by decide +kernel
theorem dX10_man_88 : decode cX10_man 88 = .ok (.iload_n 3, 1) := by decide +kernel
theorem dX10_man_89 : decode cX10_man 89 = .ok (.iload_n 2, 1) := by decide +kernel
theorem dX10_man_90 : decode cX10_man 90 = .ok (.invokevirtual 180, 3) := by decide +kernel
theorem dX10_man_93 : decode cX10_man 93 = .ok (.iload_n 3, 1) := by decide +kernel
theorem dX10_man_94 : decode cX10_man 94 = .ok (.ireturn, 1) := by decide +kernel
set_option maxRecDepth 20000 in
theorem ggX10_about_X1_has : GoodIn wsX10_about wsX1_has := goodIn_r _ [10, 11, 43, 44] (by decide +kernel) (by decide +kernel)
set_option maxRecDepth 20000 in
theorem gX10_about_X1_has : GoodIn wsX10_about (wsV RX10 187 RX1 yX1_has wsX1_has) := goodIn_app (goodIn_of _ (by decide +kernel)) ggX10_about_X1_has
set_option maxRecDepth 20000 in
theorem ggX10_about_X8_get : GoodIn wsX10_about wsX8_get := goodIn_r _ [16, 17, 51] (by decide +kernel) (by decide +kernel)
set_option maxRecDepth 20000 in
theorem gX10_about_X8_get : GoodIn wsX10_about (wsV RX10 128 RX8 yX8_get wsX8_get) := goodIn_app (goodIn_of _ (by decide +kernel)) ggX10_about_X8_get
set_option maxRecDepth 20000 in
theorem ggX10_about_X10_bit : GoodIn wsX10_about wsX10_bit := goodIn_r _ [21] (by decide +kernel) (by decide +kernel)
set_option maxRecDepth 20000 in
theorem gX10_about_X10_bit : GoodIn wsX10_about (va_wsS RX10 142 yX10_bit wsX10_bit) := goodIn_app (goodIn_of _ (by decide +kernel)) ggX10_about_X10_bit
set_option maxRecDepth 20000 in
theorem ggX10_about_X1_bears : GoodIn wsX10_about wsX1_bears := goodIn_r _ [25, 26, 27, 13, 14, 15, 16, 17, 43, 44, 51] (by decide +kernel) (by decide +kernel)
set_option maxRecDepth 20000 in
theorem gX10_about_X1_bears : GoodIn wsX10_about (wsV RX10 193 RX1 yX1_bears wsX1_bears) := goodIn_app (goodIn_of _ (by decide +kernel)) ggX10_about_X1_bears
theorem dX10_about_0 : decode cX10_about 0 = .ok (.aload_n 0, 1) := by decide +kernel
theorem dX10_about_1 : decode cX10_about 1 = .ok (.getfield 43, 3) := by decide +kernel
theorem dX10_about_4 : decode cX10_about 4 = .ok (.iload_n 1, 1) := by decide +kernel
theorem dX10_about_5 : decode cX10_about 5 = .ok (.invokevirtual 187, 3) := by decide +kernel
theorem dX10_about_8 : decode cX10_about 8 = .ok (.ifCond .ne 6, 3) := by decide +kernel
theorem dX10_about_11 : decode cX10_about 11 = .ok (.bipush (-101), 2) := by decide +kernel
theorem dX10_about_13 : decode cX10_about 13 = .ok (.ireturn, 1) := by decide +kernel
theorem dX10_about_14 : decode cX10_about 14 = .ok (.iload_n 2, 1) := by decide +kernel
theorem dX10_about_15 : decode cX10_about 15 = .ok (.tableswitch 74 0 3 #[29, 41, 53, 65], 29) := by decide +kernel
theorem dX10_about_44 : decode cX10_about 44 = .ok (.aload_n 0, 1) := by decide +kernel
theorem dX10_about_45 : decode cX10_about 45 = .ok (.getfield 43, 3) := by decide +kernel
theorem dX10_about_48 : decode cX10_about 48 = .ok (.getfield 177, 3) := by decide +kernel
theorem dX10_about_51 : decode cX10_about 51 = .ok (.iload_n 1, 1) := by decide +kernel
theorem dX10_about_52 : decode cX10_about 52 = .ok (.invokevirtual 128, 3) := by decide +kernel
theorem dX10_about_55 : decode cX10_about 55 = .ok (.ireturn, 1) := by decide +kernel
theorem dX10_about_56 : decode cX10_about 56 = .ok (.aload_n 0, 1) := by decide +kernel
theorem dX10_about_57 : decode cX10_about 57 = .ok (.getfield 50, 3) := by decide +kernel
theorem dX10_about_60 : decode cX10_about 60 = .ok (.getfield 184, 3) := by decide +kernel
theorem dX10_about_63 : decode cX10_about 63 = .ok (.iload_n 1, 1) := by decide +kernel
theorem dX10_about_64 : decode cX10_about 64 = .ok (.invokevirtual 128, 3) := by decide +kernel
theorem dX10_about_67 : decode cX10_about 67 = .ok (.ireturn, 1) := by decide +kernel
theorem dX10_about_68 : decode cX10_about 68 = .ok (.aload_n 0, 1) := by decide +kernel
theorem dX10_about_69 : decode cX10_about 69 = .ok (.getfield 50, 3) := by decide +kernel
theorem dX10_about_72 : decode cX10_about 72 = .ok (.getfield 190, 3) := by decide +kernel
theorem dX10_about_75 : decode cX10_about 75 = .ok (.iload_n 1, 1) := by decide +kernel
theorem dX10_about_76 : decode cX10_about 76 = .ok (.invokestatic 142, 3) := by decide +kernel
theorem dX10_about_79 : decode cX10_about 79 = .ok (.ireturn, 1) := by decide +kernel
theorem dX10_about_80 : decode cX10_about 80 = .ok (.aload_n 0, 1) := by decide +kernel
theorem dX10_about_81 : decode cX10_about 81 = .ok (.getfield 43, 3) := by decide +kernel
theorem dX10_about_84 : decode cX10_about 84 = .ok (.iload_n 1, 1) := by decide +kernel
theorem dX10_about_85 : decode cX10_about 85 = .ok (.invokevirtual 193, 3) := by decide +kernel
theorem dX10_about_88 : decode cX10_about 88 = .ok (.ireturn, 1) := by decide +kernel
theorem dX10_about_89 : decode cX10_about 89 = .ok (.bipush (-102), 2) := by decide +kernel
theorem dX10_about_91 : decode cX10_about 91 = .ok (.ireturn, 1) := by decide +kernel
set_option maxRecDepth 20000 in
theorem ggX10_as_X1_has : GoodIn wsX10_as wsX1_has := goodIn_r _ [6, 7, 37, 38] (by decide +kernel) (by decide +kernel)
set_option maxRecDepth 20000 in
theorem gX10_as_X1_has : GoodIn wsX10_as (wsV RX10 187 RX1 yX1_has wsX1_has) := goodIn_app (goodIn_of _ (by decide +kernel)) ggX10_as_X1_has
set_option maxRecDepth 20000 in
theorem ggX10_as_X1_isKind : GoodIn wsX10_as wsX1_isKind := goodIn_r _ [10] (by decide +kernel) (by decide +kernel)
set_option maxRecDepth 20000 in
theorem gX10_as_X1_isKind : GoodIn wsX10_as (va_wsS RX10 174 yX1_isKind wsX1_isKind) := goodIn_app (goodIn_of _ (by decide +kernel)) ggX10_as_X1_isKind
set_option maxRecDepth 20000 in
theorem ggX10_as_X1_isOf : GoodIn wsX10_as wsX1_isOf := goodIn_r _ [14, 15, 16, 17, 18, 19, 20, 21, 37, 38, 39] (by decide +kernel) (by decide +kernel)
set_option maxRecDepth 20000 in
theorem gX10_as_X1_isOf : GoodIn wsX10_as (wsV RX10 196 RX1 yX1_isOf wsX1_isOf) := goodIn_app (goodIn_of _ (by decide +kernel)) ggX10_as_X1_isOf
theorem dX10_as_0 : decode cX10_as 0 = .ok (.aload_n 0, 1) := by decide +kernel
theorem dX10_as_1 : decode cX10_as 1 = .ok (.getfield 43, 3) := by decide +kernel
theorem dX10_as_4 : decode cX10_as 4 = .ok (.iload_n 1, 1) := by decide +kernel
theorem dX10_as_5 : decode cX10_as 5 = .ok (.invokevirtual 187, 3) := by decide +kernel
theorem dX10_as_8 : decode cX10_as 8 = .ok (.ifCond .ne 6, 3) := by decide +kernel
theorem dX10_as_11 : decode cX10_as 11 = .ok (.bipush (-101), 2) := by decide +kernel
theorem dX10_as_13 : decode cX10_as 13 = .ok (.ireturn, 1) := by decide +kernel
theorem dX10_as_14 : decode cX10_as 14 = .ok (.iload_n 2, 1) := by decide +kernel
theorem dX10_as_15 : decode cX10_as 15 = .ok (.invokestatic 174, 3) := by decide +kernel
theorem dX10_as_18 : decode cX10_as 18 = .ok (.ifCond .ne 6, 3) := by decide +kernel
theorem dX10_as_21 : decode cX10_as 21 = .ok (.bipush (-102), 2) := by decide +kernel
theorem dX10_as_23 : decode cX10_as 23 = .ok (.ireturn, 1) := by decide +kernel
theorem dX10_as_24 : decode cX10_as 24 = .ok (.aload_n 0, 1) := by decide +kernel
theorem dX10_as_25 : decode cX10_as 25 = .ok (.getfield 43, 3) := by decide +kernel
theorem dX10_as_28 : decode cX10_as 28 = .ok (.iload_n 1, 1) := by decide +kernel
theorem dX10_as_29 : decode cX10_as 29 = .ok (.iload_n 2, 1) := by decide +kernel
theorem dX10_as_30 : decode cX10_as 30 = .ok (.invokevirtual 196, 3) := by decide +kernel
theorem dX10_as_33 : decode cX10_as 33 = .ok (.ifCond .eq 7, 3) := by decide +kernel
theorem dX10_as_36 : decode cX10_as 36 = .ok (.iload_n 1, 1) := by decide +kernel
theorem dX10_as_37 : decode cX10_as 37 = .ok (.goto 4, 3) := by decide +kernel
theorem dX10_as_40 : decode cX10_as 40 = .ok (.iconst (-1), 1) := by decide +kernel
theorem dX10_as_41 : decode cX10_as 41 = .ok (.ireturn, 1) := by decide +kernel
set_option maxRecDepth 20000 in
theorem ggX10_walk_X1_has : GoodIn wsX10_walk wsX1_has := goodIn_r _ [11, 12, 71, 72] (by decide +kernel) (by decide +kernel)
set_option maxRecDepth 20000 in
theorem gX10_walk_X1_has : GoodIn wsX10_walk (wsV RX10 187 RX1 yX1_has wsX1_has) := goodIn_app (goodIn_of _ (by decide +kernel)) ggX10_walk_X1_has
set_option maxRecDepth 20000 in
theorem ggX10_walk_X5_hasGallery : GoodIn wsX10_walk wsX5_hasGallery := goodIn_r _ [17, 18, 73, 74, 75, 76, 77, 78, 79] (by decide +kernel) (by decide +kernel)
set_option maxRecDepth 20000 in
theorem gX10_walk_X5_hasGallery : GoodIn wsX10_walk (wsV RX10 120 RX5 yX5_hasGallery wsX5_hasGallery) := goodIn_app (goodIn_of _ (by decide +kernel)) ggX10_walk_X5_hasGallery
set_option maxRecDepth 20000 in
theorem ggX10_walk_X8_get : GoodIn wsX10_walk wsX8_get := goodIn_r _ [23, 24, 80] (by decide +kernel) (by decide +kernel)
set_option maxRecDepth 20000 in
theorem gX10_walk_X8_get : GoodIn wsX10_walk (wsV RX10 128 RX8 yX8_get wsX8_get) := goodIn_app (goodIn_of _ (by decide +kernel)) ggX10_walk_X8_get
set_option maxRecDepth 20000 in
theorem ggX10_walk_X10_bit : GoodIn wsX10_walk wsX10_bit := goodIn_r _ [28] (by decide +kernel) (by decide +kernel)
set_option maxRecDepth 20000 in
theorem gX10_walk_X10_bit : GoodIn wsX10_walk (va_wsS RX10 142 yX10_bit wsX10_bit) := goodIn_app (goodIn_of _ (by decide +kernel)) ggX10_walk_X10_bit
set_option maxRecDepth 20000 in
theorem ggX10_walk_X1_isOf : GoodIn wsX10_walk wsX1_isOf := goodIn_r _ [32, 33, 34, 20, 21, 22, 23, 24, 71, 72, 80] (by decide +kernel) (by decide +kernel)
set_option maxRecDepth 20000 in
theorem gX10_walk_X1_isOf : GoodIn wsX10_walk (wsV RX10 196 RX1 yX1_isOf wsX1_isOf) := goodIn_app (goodIn_of _ (by decide +kernel)) ggX10_walk_X1_isOf
set_option maxRecDepth 20000 in
theorem ggX10_walk_X5_isAt : GoodIn wsX10_walk wsX5_isAt := goodIn_r _ [38, 39, 40, 41, 20, 21, 22, 23, 24, 73, 74, 75, 76, 77, 78, 79, 80] (by decide +kernel) (by decide +kernel)
set_option maxRecDepth 20000 in
theorem gX10_walk_X5_isAt : GoodIn wsX10_walk (wsV RX10 200 RX5 yX5_isAt wsX5_isAt) := goodIn_app (goodIn_of _ (by decide +kernel)) ggX10_walk_X5_isAt
set_option maxRecDepth 20000 in
theorem ggX10_walk_X5_otherEnd : GoodIn wsX10_walk wsX5_otherEnd := goodIn_r _ [45, 39, 40, 41, 20, 21, 22, 23, 24, 73, 74, 75, 76, 77, 78, 79, 80] (by decide +kernel) (by decide +kernel)
set_option maxRecDepth 20000 in
theorem gX10_walk_X5_otherEnd : GoodIn wsX10_walk (wsV RX10 203 RX5 yX5_otherEnd wsX5_otherEnd) := goodIn_app (goodIn_of _ (by decide +kernel)) ggX10_walk_X5_otherEnd
set_option maxRecDepth 20000 in
theorem ggX10_walk_X8_set : GoodIn wsX10_walk wsX8_set := goodIn_r _ [49, 24, 80] (by decide +kernel) (by decide +kernel)
set_option maxRecDepth 20000 in
theorem gX10_walk_X8_set : GoodIn wsX10_walk (wsV RX10 180 RX8 yX8_set wsX8_set) := goodIn_app (goodIn_of _ (by decide +kernel)) ggX10_walk_X8_set
theorem dX10_walk_0 : decode cX10_walk 0 = .ok (.aload_n 0, 1) := by decide +kernel
theorem dX10_walk_1 : decode cX10_walk 1 = .ok (.getfield 43, 3) := by decide +kernel
theorem dX10_walk_4 : decode cX10_walk 4 = .ok (.iload_n 1, 1) := by decide +kernel
theorem dX10_walk_5 : decode cX10_walk 5 = .ok (.invokevirtual 187, 3) := by decide +kernel
theorem dX10_walk_8 : decode cX10_walk 8 = .ok (.ifCond .eq 14, 3) := by decide +kernel
theorem dX10_walk_11 : decode cX10_walk 11 = .ok (.aload_n 0, 1) := by decide +kernel
theorem dX10_walk_12 : decode cX10_walk 12 = .ok (.getfield 19, 3) := by decide +kernel
theorem dX10_walk_15 : decode cX10_walk 15 = .ok (.iload_n 2, 1) := by decide +kernel
theorem dX10_walk_16 : decode cX10_walk 16 = .ok (.invokevirtual 120, 3) := by decide +kernel
theorem dX10_walk_19 : decode cX10_walk 19 = .ok (.ifCond .ne 6, 3) := by decide +kernel
theorem dX10_walk_22 : decode cX10_walk 22 = .ok (.bipush (-101), 2) := by decide +kernel
theorem dX10_walk_24 : decode cX10_walk 24 = .ok (.ireturn, 1) := by decide +kernel
theorem dX10_walk_25 : decode cX10_walk 25 = .ok (.aload_n 0, 1) := by decide +kernel
theorem dX10_walk_26 : decode cX10_walk 26 = .ok (.getfield 50, 3) := by decide +kernel
theorem dX10_walk_29 : decode cX10_walk 29 = .ok (.getfield 184, 3) := by decide +kernel
theorem dX10_walk_32 : decode cX10_walk 32 = .ok (.iload_n 1, 1) := by decide +kernel
theorem dX10_walk_33 : decode cX10_walk 33 = .ok (.invokevirtual 128, 3) := by decide +kernel
theorem dX10_walk_36 : decode cX10_walk 36 = .ok (.istore_n 3, 1) := by decide +kernel
theorem dX10_walk_37 : decode cX10_walk 37 = .ok (.aload_n 0, 1) := by decide +kernel
theorem dX10_walk_38 : decode cX10_walk 38 = .ok (.getfield 50, 3) := by decide +kernel
theorem dX10_walk_41 : decode cX10_walk 41 = .ok (.getfield 146, 3) := by decide +kernel
theorem dX10_walk_44 : decode cX10_walk 44 = .ok (.iload_n 2, 1) := by decide +kernel
theorem dX10_walk_45 : decode cX10_walk 45 = .ok (.invokestatic 142, 3) := by decide +kernel
theorem dX10_walk_48 : decode cX10_walk 48 = .ok (.ifCond .ne 19, 3) := by decide +kernel
theorem dX10_walk_51 : decode cX10_walk 51 = .ok (.aload_n 0, 1) := by decide +kernel
theorem dX10_walk_52 : decode cX10_walk 52 = .ok (.getfield 43, 3) := by decide +kernel
theorem dX10_walk_55 : decode cX10_walk 55 = .ok (.iload_n 1, 1) := by decide +kernel
theorem dX10_walk_56 : decode cX10_walk 56 = .ok (.iconst 3, 1) := by decide +kernel
theorem dX10_walk_57 : decode cX10_walk 57 = .ok (.invokevirtual 196, 3) := by decide +kernel
theorem dX10_walk_60 : decode cX10_walk 60 = .ok (.ifCond .ne 7, 3) := by decide +kernel
theorem dX10_walk_63 : decode cX10_walk 63 = .ok (.iconst 1, 1) := by decide +kernel
theorem dX10_walk_64 : decode cX10_walk 64 = .ok (.goto 4, 3) := by decide +kernel
theorem dX10_walk_67 : decode cX10_walk 67 = .ok (.iconst 0, 1) := by decide +kernel
theorem dX10_walk_68 : decode cX10_walk 68 = .ok (.istore 4, 2) := by decide +kernel
theorem dX10_walk_70 : decode cX10_walk 70 = .ok (.aload_n 0, 1) := by decide +kernel
theorem dX10_walk_71 : decode cX10_walk 71 = .ok (.getfield 50, 3) := by decide +kernel
theorem dX10_walk_74 : decode cX10_walk 74 = .ok (.getfield 190, 3) := by decide +kernel
theorem dX10_walk_77 : decode cX10_walk 77 = .ok (.iload_n 1, 1) := by decide +kernel
theorem dX10_walk_78 : decode cX10_walk 78 = .ok (.invokestatic 142, 3) := by decide +kernel
theorem dX10_walk_81 : decode cX10_walk 81 = .ok (.iconst 1, 1) := by decide +kernel
theorem dX10_walk_82 : decode cX10_walk 82 = .ok (.if_icmp .eq 20, 3) := by decide +kernel
theorem dX10_walk_85 : decode cX10_walk 85 = .ok (.aload_n 0, 1) := by decide +kernel
theorem dX10_walk_86 : decode cX10_walk 86 = .ok (.getfield 19, 3) := by decide +kernel
theorem dX10_walk_89 : decode cX10_walk 89 = .ok (.iload_n 2, 1) := by decide +kernel
theorem dX10_walk_90 : decode cX10_walk 90 = .ok (.iload_n 3, 1) := by decide +kernel
theorem dX10_walk_91 : decode cX10_walk 91 = .ok (.invokevirtual 200, 3) := by decide +kernel
theorem dX10_walk_94 : decode cX10_walk 94 = .ok (.ifCond .eq 8, 3) := by decide +kernel
theorem dX10_walk_97 : decode cX10_walk 97 = .ok (.iload 4, 2) := by decide +kernel
theorem dX10_walk_99 : decode cX10_walk 99 = .ok (.ifCond .eq 6, 3) := by decide +kernel
theorem dX10_walk_102 : decode cX10_walk 102 = .ok (.bipush (-103), 2) := by decide +kernel
theorem dX10_walk_104 : decode cX10_walk 104 = .ok (.ireturn, 1) := by decide +kernel
theorem dX10_walk_105 : decode cX10_walk 105 = .ok (.aload_n 0, 1) := by decide +kernel
theorem dX10_walk_106 : decode cX10_walk 106 = .ok (.getfield 19, 3) := by decide +kernel
theorem dX10_walk_109 : decode cX10_walk 109 = .ok (.iload_n 2, 1) := by decide +kernel
theorem dX10_walk_110 : decode cX10_walk 110 = .ok (.iload_n 3, 1) := by decide +kernel
theorem dX10_walk_111 : decode cX10_walk 111 = .ok (.invokevirtual 203, 3) := by decide +kernel
theorem dX10_walk_114 : decode cX10_walk 114 = .ok (.istore 5, 2) := by decide +kernel
theorem dX10_walk_116 : decode cX10_walk 116 = .ok (.aload_n 0, 1) := by decide +kernel
theorem dX10_walk_117 : decode cX10_walk 117 = .ok (.getfield 50, 3) := by decide +kernel
theorem dX10_walk_120 : decode cX10_walk 120 = .ok (.getfield 184, 3) := by decide +kernel
theorem dX10_walk_123 : decode cX10_walk 123 = .ok (.iload_n 1, 1) := by decide +kernel
theorem dX10_walk_124 : decode cX10_walk 124 = .ok (.iload 5, 2) := by decide +kernel
theorem dX10_walk_126 : decode cX10_walk 126 = .ok (.invokevirtual 180, 3) := by decide +kernel
theorem dX10_walk_129 : decode cX10_walk 129 = .ok (.iload 5, 2) := by decide +kernel
theorem dX10_walk_131 : decode cX10_walk 131 = .ok (.ireturn, 1) := by decide +kernel
set_option maxRecDepth 20000 in
theorem ggX10_minutes_X5_isRead : GoodIn wsX10_minutes wsX5_isRead := goodIn_r _ [11, 12, 79, 80, 81, 82, 83, 84, 85] (by decide +kernel) (by decide +kernel)
set_option maxRecDepth 20000 in
theorem gX10_minutes_X5_isRead : GoodIn wsX10_minutes (wsV RX10 152 RX5 yX5_isRead wsX5_isRead) := goodIn_app (goodIn_of _ (by decide +kernel)) ggX10_minutes_X5_isRead
set_option maxRecDepth 20000 in
theorem ggX10_minutes_J6_bitCount_0f7a4 : GoodIn wsX10_minutes wsJ6_bitCount_0f7a4 := goodIn_r _ [16, 17, 18, 19] (by decide +kernel) (by decide +kernel)
set_option maxRecDepth 20000 in
theorem gX10_minutes_J6_bitCount_0f7a4 : GoodIn wsX10_minutes (va_wsS RX10 206 yJ6_bitCount_0f7a4 wsJ6_bitCount_0f7a4) := goodIn_app (goodIn_of _ (by decide +kernel)) ggX10_minutes_J6_bitCount_0f7a4
set_option maxRecDepth 20000 in
theorem ggX10_minutes_X3_passMinute : GoodIn wsX10_minutes wsX3_passMinute := goodIn_r _ [24, 25, 26, 27, 28, 29, 30, 31, 32, 33, 34, 35, 36, 37, 38, 39, 40, 41, 42, 43, 44, 45, 46, 47, 48, 49, 50, 51, 52, 53, 69, 70, 71, 72, 73, 74, 86, 87, 88] (by decide +kernel) (by decide +kernel)
set_option maxRecDepth 20000 in
theorem gX10_minutes_X3_passMinute : GoodIn wsX10_minutes (wsV RX10 211 RX3 yX3_passMinute wsX3_passMinute) := goodIn_app (goodIn_of _ (by decide +kernel)) ggX10_minutes_X3_passMinute
theorem dX10_minutes_0 : decode cX10_minutes 0 = .ok (.iload_n 1, 1) := by decide +kernel
theorem dX10_minutes_1 : decode cX10_minutes 1 = .ok (.iconst 1, 1) := by decide +kernel
theorem dX10_minutes_2 : decode cX10_minutes 2 = .ok (.if_icmp .lt 9, 3) := by decide +kernel
theorem dX10_minutes_5 : decode cX10_minutes 5 = .ok (.iload_n 1, 1) := by decide +kernel
theorem dX10_minutes_6 : decode cX10_minutes 6 = .ok (.bipush 60, 2) := by decide +kernel
theorem dX10_minutes_8 : decode cX10_minutes 8 = .ok (.if_icmp .le 6, 3) := by decide +kernel
theorem dX10_minutes_11 : decode cX10_minutes 11 = .ok (.bipush (-102), 2) := by decide +kernel
theorem dX10_minutes_13 : decode cX10_minutes 13 = .ok (.ireturn, 1) := by decide +kernel
theorem dX10_minutes_14 : decode cX10_minutes 14 = .ok (.aload_n 0, 1) := by decide +kernel
theorem dX10_minutes_15 : decode cX10_minutes 15 = .ok (.getfield 19, 3) := by decide +kernel
theorem dX10_minutes_18 : decode cX10_minutes 18 = .ok (.invokevirtual 152, 3) := by decide +kernel
theorem dX10_minutes_21 : decode cX10_minutes 21 = .ok (.ifCond .ne 6, 3) := by decide +kernel
theorem dX10_minutes_24 : decode cX10_minutes 24 = .ok (.bipush (-103), 2) := by decide +kernel
theorem dX10_minutes_26 : decode cX10_minutes 26 = .ok (.ireturn, 1) := by decide +kernel
theorem dX10_minutes_27 : decode cX10_minutes 27 = .ok (.aload_n 0, 1) := by decide +kernel
theorem dX10_minutes_28 : decode cX10_minutes 28 = .ok (.getfield 50, 3) := by decide +kernel
theorem dX10_minutes_31 : decode cX10_minutes 31 = .ok (.getfield 190, 3) := by decide +kernel
theorem dX10_minutes_34 : decode cX10_minutes 34 = .ok (.invokestatic 206, 3) := by decide +kernel
theorem dX10_minutes_37 : decode cX10_minutes 37 = .ok (.istore_n 2, 1) := by decide +kernel
theorem dX10_minutes_38 : decode cX10_minutes 38 = .ok (.iconst 0, 1) := by decide +kernel
theorem dX10_minutes_39 : decode cX10_minutes 39 = .ok (.istore_n 3, 1) := by decide +kernel
theorem dX10_minutes_40 : decode cX10_minutes 40 = .ok (.iload_n 3, 1) := by decide +kernel
theorem dX10_minutes_41 : decode cX10_minutes 41 = .ok (.iload_n 1, 1) := by decide +kernel
theorem dX10_minutes_42 : decode cX10_minutes 42 = .ok (.if_icmp .ge 27, 3) := by decide +kernel
theorem dX10_minutes_45 : decode cX10_minutes 45 = .ok (.aload_n 0, 1) := by decide +kernel
theorem dX10_minutes_46 : decode cX10_minutes 46 = .ok (.getfield 50, 3) := by decide +kernel
theorem dX10_minutes_49 : decode cX10_minutes 49 = .ok (.aload_n 0, 1) := by decide +kernel
theorem dX10_minutes_50 : decode cX10_minutes 50 = .ok (.getfield 43, 3) := by decide +kernel
theorem dX10_minutes_53 : decode cX10_minutes 53 = .ok (.aload_n 0, 1) := by decide +kernel
theorem dX10_minutes_54 : decode cX10_minutes 54 = .ok (.getfield 26, 3) := by decide +kernel
theorem dX10_minutes_57 : decode cX10_minutes 57 = .ok (.getfield 164, 3) := by decide +kernel
theorem dX10_minutes_60 : decode cX10_minutes 60 = .ok (.invokevirtual 211, 3) := by decide +kernel
theorem dX10_minutes_63 : decode cX10_minutes 63 = .ok (.iinc 3 1, 3) := by decide +kernel
theorem dX10_minutes_66 : decode cX10_minutes 66 = .ok (.goto (-26), 3) := by decide +kernel
theorem dX10_minutes_69 : decode cX10_minutes 69 = .ok (.aload_n 0, 1) := by decide +kernel
theorem dX10_minutes_70 : decode cX10_minutes 70 = .ok (.getfield 50, 3) := by decide +kernel
theorem dX10_minutes_73 : decode cX10_minutes 73 = .ok (.getfield 190, 3) := by decide +kernel
theorem dX10_minutes_76 : decode cX10_minutes 76 = .ok (.invokestatic 206, 3) := by decide +kernel
theorem dX10_minutes_79 : decode cX10_minutes 79 = .ok (.iload_n 2, 1) := by decide +kernel
theorem dX10_minutes_80 : decode cX10_minutes 80 = .ok (.isub, 1) := by decide +kernel
theorem dX10_minutes_81 : decode cX10_minutes 81 = .ok (.ireturn, 1) := by decide +kernel
set_option maxRecDepth 20000 in
theorem ggX10_smelt_X5_isRead : GoodIn wsX10_smelt wsX5_isRead := goodIn_r _ [7, 8, 40, 41, 42, 43, 44, 45, 46] (by decide +kernel) (by decide +kernel)
set_option maxRecDepth 20000 in
theorem gX10_smelt_X5_isRead : GoodIn wsX10_smelt (wsV RX10 152 RX5 yX5_isRead wsX5_isRead) := goodIn_app (goodIn_of _ (by decide +kernel)) ggX10_smelt_X5_isRead
set_option maxRecDepth 20000 in
theorem ggX10_smelt_X10_isKnot : GoodIn wsX10_smelt wsX10_isKnot := goodIn_r _ [12] (by decide +kernel) (by decide +kernel)
set_option maxRecDepth 20000 in
theorem gX10_smelt_X10_isKnot : GoodIn wsX10_smelt (va_wsS RX10 155 yX10_isKnot wsX10_isKnot) := goodIn_app (goodIn_of _ (by decide +kernel)) ggX10_smelt_X10_isKnot
set_option maxRecDepth 20000 in
theorem ggX10_smelt_X9_between : GoodIn wsX10_smelt wsX9_between := goodIn_r _ [17, 18, 19, 20, 21, 22, 23, 24, 47, 48] (by decide +kernel) (by decide +kernel)
set_option maxRecDepth 20000 in
theorem gX10_smelt_X9_between : GoodIn wsX10_smelt (wsV RX10 215 RX9 yX9_between wsX9_between) := goodIn_app (goodIn_of _ (by decide +kernel)) ggX10_smelt_X9_between
theorem dX10_smelt_0 : decode cX10_smelt 0 = .ok (.aload_n 0, 1) := by decide +kernel
theorem dX10_smelt_1 : decode cX10_smelt 1 = .ok (.getfield 19, 3) := by decide +kernel
theorem dX10_smelt_4 : decode cX10_smelt 4 = .ok (.invokevirtual 152, 3) := by decide +kernel
theorem dX10_smelt_7 : decode cX10_smelt 7 = .ok (.ifCond .ne 6, 3) := by decide +kernel
theorem dX10_smelt_10 : decode cX10_smelt 10 = .ok (.bipush (-103), 2) := by decide +kernel
theorem dX10_smelt_12 : decode cX10_smelt 12 = .ok (.ireturn, 1) := by decide +kernel
theorem dX10_smelt_13 : decode cX10_smelt 13 = .ok (.iload_n 1, 1) := by decide +kernel
theorem dX10_smelt_14 : decode cX10_smelt 14 = .ok (.invokestatic 155, 3) := by decide +kernel
theorem dX10_smelt_17 : decode cX10_smelt 17 = .ok (.ifCond .eq 10, 3) := by decide +kernel
theorem dX10_smelt_20 : decode cX10_smelt 20 = .ok (.iload_n 2, 1) := by decide +kernel
theorem dX10_smelt_21 : decode cX10_smelt 21 = .ok (.invokestatic 155, 3) := by decide +kernel
theorem dX10_smelt_24 : decode cX10_smelt 24 = .ok (.ifCond .ne 6, 3) := by decide +kernel
theorem dX10_smelt_27 : decode cX10_smelt 27 = .ok (.bipush (-101), 2) := by decide +kernel
theorem dX10_smelt_29 : decode cX10_smelt 29 = .ok (.ireturn, 1) := by decide +kernel
theorem dX10_smelt_30 : decode cX10_smelt 30 = .ok (.aload_n 0, 1) := by decide +kernel
theorem dX10_smelt_31 : decode cX10_smelt 31 = .ok (.getfield 36, 3) := by decide +kernel
theorem dX10_smelt_34 : decode cX10_smelt 34 = .ok (.iload_n 1, 1) := by decide +kernel
theorem dX10_smelt_35 : decode cX10_smelt 35 = .ok (.iload_n 2, 1) := by decide +kernel
theorem dX10_smelt_36 : decode cX10_smelt 36 = .ok (.invokevirtual 215, 3) := by decide +kernel
theorem dX10_smelt_39 : decode cX10_smelt 39 = .ok (.ireturn, 1) := by decide +kernel
set_option maxRecDepth 20000 in
theorem ggX10_doors_X5_isRead : GoodIn wsX10_doors wsX5_isRead := goodIn_r _ [7, 8, 100, 101, 102, 103, 104, 105, 106] (by decide +kernel) (by decide +kernel)
set_option maxRecDepth 20000 in
theorem gX10_doors_X5_isRead : GoodIn wsX10_doors (wsV RX10 152 RX5 yX5_isRead wsX5_isRead) := goodIn_app (goodIn_of _ (by decide +kernel)) ggX10_doors_X5_isRead
set_option maxRecDepth 20000 in
theorem ggX10_doors_X10_isKnotSet : GoodIn wsX10_doors wsX10_isKnotSet := goodIn_r _ [12] (by decide +kernel) (by decide +kernel)
set_option maxRecDepth 20000 in
theorem gX10_doors_X10_isKnotSet : GoodIn wsX10_doors (va_wsS RX10 218 yX10_isKnotSet wsX10_isKnotSet) := goodIn_app (goodIn_of _ (by decide +kernel)) ggX10_doors_X10_isKnotSet
set_option maxRecDepth 20000 in
theorem ggX10_doors_X10_fewestDoors : GoodIn wsX10_doors wsX10_fewestDoors := goodIn_r _ [16, 1, 17, 18, 19, 20, 21, 22, 23, 24, 25, 26, 27, 11, 28, 29, 30, 31, 32, 33, 34, 35, 36, 37, 38, 39, 40, 41, 42, 43, 44, 45, 46, 47, 48, 49, 50, 51, 52, 53, 54, 55, 56, 57, 58, 59, 60, 61, 62, 63, 64, 65, 66, 67, 68, 69, 70, 71, 6, 72, 73, 74, 75, 76, 77, 78, 79, 80, 81, 82, 83, 84, 85, 86, 87, 88, 89, 90, 91, 92, 93, 94, 95, 96, 97, 98, 99, 100, 101, 102, 103, 104, 105, 106, 107, 108, 109, 110, 111, 112, 113, 114, 115, 116, 117] (by decide +kernel) (by decide +kernel)
set_option maxRecDepth 20000 in
theorem gX10_doors_X10_fewestDoors : GoodIn wsX10_doors (wsV RX10 224 RX10 yX10_fewestDoors wsX10_fewestDoors) := goodIn_app (goodIn_of _ (by decide +kernel)) ggX10_doors_X10_fewestDoors
set_option maxRecDepth 20000 in
theorem ggX10_doors_J6_bitCount_0f7a4 : GoodIn wsX10_doors wsJ6_bitCount_0f7a4 := goodIn_r _ [21, 22, 23, 24] (by decide +kernel) (by decide +kernel)
set_option maxRecDepth 20000 in
theorem gX10_doors_J6_bitCount_0f7a4 : GoodIn wsX10_doors (va_wsS RX10 206 yJ6_bitCount_0f7a4 wsJ6_bitCount_0f7a4) := goodIn_app (goodIn_of _ (by decide +kernel)) ggX10_doors_J6_bitCount_0f7a4
theorem dX10_doors_0 : decode cX10_doors 0 = .ok (.aload_n 0, 1) := by decide +kernel
theorem dX10_doors_1 : decode cX10_doors 1 = .ok (.getfield 19, 3) := by decide +kernel
theorem dX10_doors_4 : decode cX10_doors 4 = .ok (.invokevirtual 152, 3) := by decide +kernel
theorem dX10_doors_7 : decode cX10_doors 7 = .ok (.ifCond .ne 6, 3) := by decide +kernel
theorem dX10_doors_10 : decode cX10_doors 10 = .ok (.bipush (-103), 2) := by decide +kernel
theorem dX10_doors_12 : decode cX10_doors 12 = .ok (.ireturn, 1) := by decide +kernel
theorem dX10_doors_13 : decode cX10_doors 13 = .ok (.iload_n 1, 1) := by decide +kernel
theorem dX10_doors_14 : decode cX10_doors 14 = .ok (.invokestatic 218, 3) := by decide +kernel
theorem dX10_doors_17 : decode cX10_doors 17 = .ok (.ifCond .eq 12, 3) := by decide +kernel
theorem dX10_doors_20 : decode cX10_doors 20 = .ok (.iload_n 2, 1) := by decide +kernel
theorem dX10_doors_21 : decode cX10_doors 21 = .ok (.ifCond .lt 8, 3) := by decide +kernel
theorem dX10_doors_24 : decode cX10_doors 24 = .ok (.iload_n 2, 1) := by decide +kernel
theorem dX10_doors_25 : decode cX10_doors 25 = .ok (.iconst 1, 1) := by decide +kernel
theorem dX10_doors_26 : decode cX10_doors 26 = .ok (.if_icmp .le 6, 3) := by decide +kernel
theorem dX10_doors_29 : decode cX10_doors 29 = .ok (.bipush (-102), 2) := by decide +kernel
theorem dX10_doors_31 : decode cX10_doors 31 = .ok (.ireturn, 1) := by decide +kernel
theorem dX10_doors_32 : decode cX10_doors 32 = .ok (.aload_n 0, 1) := by decide +kernel
theorem dX10_doors_33 : decode cX10_doors 33 = .ok (.getfield 221, 3) := by decide +kernel
theorem dX10_doors_36 : decode cX10_doors 36 = .ok (.bipush 40, 2) := by decide +kernel
theorem dX10_doors_38 : decode cX10_doors 38 = .ok (.if_icmp .lt 6, 3) := by decide +kernel
theorem dX10_doors_41 : decode cX10_doors 41 = .ok (.bipush (-103), 2) := by decide +kernel
theorem dX10_doors_43 : decode cX10_doors 43 = .ok (.ireturn, 1) := by decide +kernel
theorem dX10_doors_44 : decode cX10_doors 44 = .ok (.aload_n 0, 1) := by decide +kernel
theorem dX10_doors_45 : decode cX10_doors 45 = .ok (.dup, 1) := by decide +kernel
theorem dX10_doors_46 : decode cX10_doors 46 = .ok (.getfield 221, 3) := by decide +kernel
theorem dX10_doors_49 : decode cX10_doors 49 = .ok (.iconst 1, 1) := by decide +kernel
theorem dX10_doors_50 : decode cX10_doors 50 = .ok (.iadd, 1) := by decide +kernel
theorem dX10_doors_51 : decode cX10_doors 51 = .ok (.putfield 221, 3) := by decide +kernel
theorem dX10_doors_54 : decode cX10_doors 54 = .ok (.aload_n 0, 1) := by decide +kernel
theorem dX10_doors_55 : decode cX10_doors 55 = .ok (.iload_n 1, 1) := by decide +kernel
theorem dX10_doors_56 : decode cX10_doors 56 = .ok (.invokevirtual 224, 3) := by decide +kernel
theorem dX10_doors_59 : decode cX10_doors 59 = .ok (.istore_n 3, 1) := by decide +kernel
theorem dX10_doors_60 : decode cX10_doors 60 = .ok (.iload_n 3, 1) := by decide +kernel
theorem dX10_doors_61 : decode cX10_doors 61 = .ok (.iconst (-1), 1) := by decide +kernel
theorem dX10_doors_62 : decode cX10_doors 62 = .ok (.if_icmp .eq 8, 3) := by decide +kernel
theorem dX10_doors_65 : decode cX10_doors 65 = .ok (.iload_n 2, 1) := by decide +kernel
theorem dX10_doors_66 : decode cX10_doors 66 = .ok (.iconst 1, 1) := by decide +kernel
theorem dX10_doors_67 : decode cX10_doors 67 = .ok (.if_icmp .ne 7, 3) := by decide +kernel
theorem dX10_doors_70 : decode cX10_doors 70 = .ok (.iload_n 3, 1) := by decide +kernel
theorem dX10_doors_71 : decode cX10_doors 71 = .ok (.goto 7, 3) := by decide +kernel
theorem dX10_doors_74 : decode cX10_doors 74 = .ok (.iload_n 3, 1) := by decide +kernel
theorem dX10_doors_75 : decode cX10_doors 75 = .ok (.invokestatic 206, 3) := by decide +kernel
theorem dX10_doors_78 : decode cX10_doors 78 = .ok (.ireturn, 1) := by decide +kernel
set_option maxRecDepth 20000 in
theorem ggX10_wayOut_X5_isRead : GoodIn wsX10_wayOut wsX5_isRead := goodIn_r _ [7, 8, 55, 56, 57, 58, 59, 60, 61] (by decide +kernel) (by decide +kernel)
set_option maxRecDepth 20000 in
theorem gX10_wayOut_X5_isRead : GoodIn wsX10_wayOut (wsV RX10 152 RX5 yX5_isRead wsX5_isRead) := goodIn_app (goodIn_of _ (by decide +kernel)) ggX10_wayOut_X5_isRead
set_option maxRecDepth 20000 in
theorem ggX10_wayOut_X10_isKnot : GoodIn wsX10_wayOut wsX10_isKnot := goodIn_r _ [12] (by decide +kernel) (by decide +kernel)
set_option maxRecDepth 20000 in
theorem gX10_wayOut_X10_isKnot : GoodIn wsX10_wayOut (va_wsS RX10 155 yX10_isKnot wsX10_isKnot) := goodIn_app (goodIn_of _ (by decide +kernel)) ggX10_wayOut_X10_isKnot
set_option maxRecDepth 20000 in
theorem ggX10_wayOut_X5_isShaft : GoodIn wsX10_wayOut wsX5_isShaft := goodIn_r _ [16, 17, 18, 11, 19, 55, 56, 57, 58, 59, 60, 61] (by decide +kernel) (by decide +kernel)
set_option maxRecDepth 20000 in
theorem gX10_wayOut_X5_isShaft : GoodIn wsX10_wayOut (wsV RX10 227 RX5 yX5_isShaft wsX5_isShaft) := goodIn_app (goodIn_of _ (by decide +kernel)) ggX10_wayOut_X5_isShaft
set_option maxRecDepth 20000 in
theorem ggX10_wayOut_X0_firstInto : GoodIn wsX10_wayOut wsX0_firstInto := goodIn_r _ [24, 25, 26, 27, 28, 29, 30, 31, 32, 55, 56, 57, 58, 59, 60, 61, 62, 63, 64, 65, 66] (by decide +kernel) (by decide +kernel)
set_option maxRecDepth 20000 in
theorem gX10_wayOut_X0_firstInto : GoodIn wsX10_wayOut (wsV RX10 230 RX0 yX0_firstInto wsX0_firstInto) := goodIn_app (goodIn_of _ (by decide +kernel)) ggX10_wayOut_X0_firstInto
set_option maxRecDepth 20000 in
theorem ggX10_wayOut_X5_otherEnd : GoodIn wsX10_wayOut wsX5_otherEnd := goodIn_r _ [36, 37, 38, 39, 28, 29, 30, 31, 32, 55, 56, 57, 58, 59, 60, 61, 66] (by decide +kernel) (by decide +kernel)
set_option maxRecDepth 20000 in
theorem gX10_wayOut_X5_otherEnd : GoodIn wsX10_wayOut (wsV RX10 203 RX5 yX5_otherEnd wsX5_otherEnd) := goodIn_app (goodIn_of _ (by decide +kernel)) ggX10_wayOut_X5_otherEnd
theorem dX10_wayOut_0 : decode cX10_wayOut 0 = .ok (.aload_n 0, 1) := by decide +kernel
theorem dX10_wayOut_1 : decode cX10_wayOut 1 = .ok (.getfield 19, 3) := by decide +kernel
theorem dX10_wayOut_4 : decode cX10_wayOut 4 = .ok (.invokevirtual 152, 3) := by decide +kernel
theorem dX10_wayOut_7 : decode cX10_wayOut 7 = .ok (.ifCond .ne 6, 3) := by decide +kernel
theorem dX10_wayOut_10 : decode cX10_wayOut 10 = .ok (.bipush (-103), 2) := by decide +kernel
theorem dX10_wayOut_12 : decode cX10_wayOut 12 = .ok (.ireturn, 1) := by decide +kernel
theorem dX10_wayOut_13 : decode cX10_wayOut 13 = .ok (.iload_n 1, 1) := by decide +kernel
theorem dX10_wayOut_14 : decode cX10_wayOut 14 = .ok (.invokestatic 155, 3) := by decide +kernel
theorem dX10_wayOut_17 : decode cX10_wayOut 17 = .ok (.ifCond .ne 6, 3) := by decide +kernel
theorem dX10_wayOut_20 : decode cX10_wayOut 20 = .ok (.bipush (-101), 2) := by decide +kernel
theorem dX10_wayOut_22 : decode cX10_wayOut 22 = .ok (.ireturn, 1) := by decide +kernel
theorem dX10_wayOut_23 : decode cX10_wayOut 23 = .ok (.iload_n 1, 1) := by decide +kernel
theorem dX10_wayOut_24 : decode cX10_wayOut 24 = .ok (.istore_n 2, 1) := by decide +kernel
theorem dX10_wayOut_25 : decode cX10_wayOut 25 = .ok (.iconst 0, 1) := by decide +kernel
theorem dX10_wayOut_26 : decode cX10_wayOut 26 = .ok (.istore_n 3, 1) := by decide +kernel
theorem dX10_wayOut_27 : decode cX10_wayOut 27 = .ok (.iload_n 3, 1) := by decide +kernel
theorem dX10_wayOut_28 : decode cX10_wayOut 28 = .ok (.bipush 7, 2) := by decide +kernel
theorem dX10_wayOut_30 : decode cX10_wayOut 30 = .ok (.if_icmp .ge 55, 3) := by decide +kernel
theorem dX10_wayOut_33 : decode cX10_wayOut 33 = .ok (.aload_n 0, 1) := by decide +kernel
theorem dX10_wayOut_34 : decode cX10_wayOut 34 = .ok (.getfield 19, 3) := by decide +kernel
theorem dX10_wayOut_37 : decode cX10_wayOut 37 = .ok (.iload_n 2, 1) := by decide +kernel
theorem dX10_wayOut_38 : decode cX10_wayOut 38 = .ok (.invokevirtual 227, 3) := by decide +kernel
theorem dX10_wayOut_41 : decode cX10_wayOut 41 = .ok (.ifCond .eq 5, 3) := by decide +kernel
theorem dX10_wayOut_44 : decode cX10_wayOut 44 = .ok (.iload_n 3, 1) := by decide +kernel
theorem dX10_wayOut_45 : decode cX10_wayOut 45 = .ok (.ireturn, 1) := by decide +kernel
theorem dX10_wayOut_46 : decode cX10_wayOut 46 = .ok (.aload_n 0, 1) := by decide +kernel
theorem dX10_wayOut_47 : decode cX10_wayOut 47 = .ok (.getfield 26, 3) := by decide +kernel
theorem dX10_wayOut_50 : decode cX10_wayOut 50 = .ok (.aload_n 0, 1) := by decide +kernel
theorem dX10_wayOut_51 : decode cX10_wayOut 51 = .ok (.getfield 19, 3) := by decide +kernel
theorem dX10_wayOut_54 : decode cX10_wayOut 54 = .ok (.iload_n 2, 1) := by decide +kernel
theorem dX10_wayOut_55 : decode cX10_wayOut 55 = .ok (.invokevirtual 230, 3) := by decide +kernel
theorem dX10_wayOut_58 : decode cX10_wayOut 58 = .ok (.istore 4, 2) := by decide +kernel
theorem dX10_wayOut_60 : decode cX10_wayOut 60 = .ok (.iload 4, 2) := by decide +kernel
theorem dX10_wayOut_62 : decode cX10_wayOut 62 = .ok (.iconst (-1), 1) := by decide +kernel
theorem dX10_wayOut_63 : decode cX10_wayOut 63 = .ok (.if_icmp .ne 5, 3) := by decide +kernel
theorem dX10_wayOut_66 : decode cX10_wayOut 66 = .ok (.iconst (-1), 1) := by decide +kernel
theorem dX10_wayOut_67 : decode cX10_wayOut 67 = .ok (.ireturn, 1) := by decide +kernel
theorem dX10_wayOut_68 : decode cX10_wayOut 68 = .ok (.aload_n 0, 1) := by decide +kernel
theorem dX10_wayOut_69 : decode cX10_wayOut 69 = .ok (.getfield 19, 3) := by decide +kernel
theorem dX10_wayOut_72 : decode cX10_wayOut 72 = .ok (.iload 4, 2) := by decide +kernel
theorem dX10_wayOut_74 : decode cX10_wayOut 74 = .ok (.iload_n 2, 1) := by decide +kernel
theorem dX10_wayOut_75 : decode cX10_wayOut 75 = .ok (.invokevirtual 203, 3) := by decide +kernel
theorem dX10_wayOut_78 : decode cX10_wayOut 78 = .ok (.istore_n 2, 1) := by decide +kernel
theorem dX10_wayOut_79 : decode cX10_wayOut 79 = .ok (.iinc 3 1, 3) := by decide +kernel
theorem dX10_wayOut_82 : decode cX10_wayOut 82 = .ok (.goto (-55), 3) := by decide +kernel
theorem dX10_wayOut_85 : decode cX10_wayOut 85 = .ok (.iconst (-1), 1) := by decide +kernel
theorem dX10_wayOut_86 : decode cX10_wayOut 86 = .ok (.ireturn, 1) := by decide +kernel
set_option maxRecDepth 20000 in
theorem ggX10_fire_X5_isRead : GoodIn wsX10_fire wsX5_isRead := goodIn_r _ [6, 7, 70, 71, 72, 73, 74, 75, 76] (by decide +kernel) (by decide +kernel)
set_option maxRecDepth 20000 in
theorem gX10_fire_X5_isRead : GoodIn wsX10_fire (wsV RX10 152 RX5 yX5_isRead wsX5_isRead) := goodIn_app (goodIn_of _ (by decide +kernel)) ggX10_fire_X5_isRead
set_option maxRecDepth 20000 in
theorem ggX10_fire_X10_isNoseTale : GoodIn wsX10_fire wsX10_isNoseTale := goodIn_r _ [12, 13, 14, 15, 16, 17, 18, 19, 20, 21, 22, 23, 24, 25, 26, 27, 28, 29, 30, 55, 56, 57, 58, 59, 60, 61, 62, 63, 64, 65, 66, 67, 68, 69, 77, 78, 79] (by decide +kernel) (by decide +kernel)
set_option maxRecDepth 20000 in
theorem gX10_fire_X10_isNoseTale : GoodIn wsX10_fire (wsV RX10 234 RX10 yX10_isNoseTale wsX10_isNoseTale) := goodIn_app (goodIn_of _ (by decide +kernel)) ggX10_fire_X10_isNoseTale
set_option maxRecDepth 20000 in
theorem ggX10_fire_X10_possibleFires : GoodIn wsX10_fire wsX10_possibleFires := goodIn_r _ [34, 13, 35, 36, 37, 38, 21, 22, 17, 23, 24, 25, 26, 27, 28, 29, 30, 39, 40, 41, 42, 11, 43, 44, 45, 46, 47, 48, 49, 50, 51, 52, 53, 54, 55, 56, 57, 58, 59, 60, 61, 62, 63, 64, 65, 66, 67, 68, 69, 77, 78, 80, 81, 82, 83, 84, 85, 79, 86] (by decide +kernel) (by decide +kernel)
set_option maxRecDepth 20000 in
theorem gX10_fire_X10_possibleFires : GoodIn wsX10_fire (wsV RX10 237 RX10 yX10_possibleFires wsX10_possibleFires) := goodIn_app (goodIn_of _ (by decide +kernel)) ggX10_fire_X10_possibleFires
theorem dX10_fire_0 : decode cX10_fire 0 = .ok (.aload_n 0, 1) := by decide +kernel
theorem dX10_fire_1 : decode cX10_fire 1 = .ok (.getfield 19, 3) := by decide +kernel
theorem dX10_fire_4 : decode cX10_fire 4 = .ok (.invokevirtual 152, 3) := by decide +kernel
theorem dX10_fire_7 : decode cX10_fire 7 = .ok (.ifCond .ne 6, 3) := by decide +kernel
theorem dX10_fire_10 : decode cX10_fire 10 = .ok (.bipush (-103), 2) := by decide +kernel
theorem dX10_fire_12 : decode cX10_fire 12 = .ok (.ireturn, 1) := by decide +kernel
theorem dX10_fire_13 : decode cX10_fire 13 = .ok (.aload_n 0, 1) := by decide +kernel
theorem dX10_fire_14 : decode cX10_fire 14 = .ok (.iload_n 1, 1) := by decide +kernel
theorem dX10_fire_15 : decode cX10_fire 15 = .ok (.iload_n 2, 1) := by decide +kernel
theorem dX10_fire_16 : decode cX10_fire 16 = .ok (.invokevirtual 234, 3) := by decide +kernel
theorem dX10_fire_19 : decode cX10_fire 19 = .ok (.ifCond .ne 6, 3) := by decide +kernel
theorem dX10_fire_22 : decode cX10_fire 22 = .ok (.bipush (-102), 2) := by decide +kernel
theorem dX10_fire_24 : decode cX10_fire 24 = .ok (.ireturn, 1) := by decide +kernel
theorem dX10_fire_25 : decode cX10_fire 25 = .ok (.aload_n 0, 1) := by decide +kernel
theorem dX10_fire_26 : decode cX10_fire 26 = .ok (.iload_n 1, 1) := by decide +kernel
theorem dX10_fire_27 : decode cX10_fire 27 = .ok (.iload_n 2, 1) := by decide +kernel
theorem dX10_fire_28 : decode cX10_fire 28 = .ok (.invokevirtual 237, 3) := by decide +kernel
theorem dX10_fire_31 : decode cX10_fire 31 = .ok (.ireturn, 1) := by decide +kernel
set_option maxRecDepth 20000 in
theorem ggX10_next_X5_isRead : GoodIn wsX10_next wsX5_isRead := goodIn_r _ [10, 11, 81, 82, 83, 84, 85, 86, 87] (by decide +kernel) (by decide +kernel)
set_option maxRecDepth 20000 in
theorem gX10_next_X5_isRead : GoodIn wsX10_next (wsV RX10 152 RX5 yX5_isRead wsX5_isRead) := goodIn_app (goodIn_of _ (by decide +kernel)) ggX10_next_X5_isRead
set_option maxRecDepth 20000 in
theorem ggX10_next_X10_isNoseTale : GoodIn wsX10_next wsX10_isNoseTale := goodIn_r _ [16, 17, 18, 19, 20, 21, 22, 23, 24, 25, 26, 27, 28, 29, 30, 31, 32, 33, 34, 66, 67, 68, 69, 70, 71, 72, 73, 74, 75, 76, 77, 78, 79, 80, 88, 89, 90] (by decide +kernel) (by decide +kernel)
set_option maxRecDepth 20000 in
theorem gX10_next_X10_isNoseTale : GoodIn wsX10_next (wsV RX10 234 RX10 yX10_isNoseTale wsX10_isNoseTale) := goodIn_app (goodIn_of _ (by decide +kernel)) ggX10_next_X10_isNoseTale
set_option maxRecDepth 20000 in
theorem ggX10_next_X10_possibleFires : GoodIn wsX10_next wsX10_possibleFires := goodIn_r _ [38, 17, 39, 40, 41, 42, 25, 26, 21, 27, 28, 29, 30, 31, 32, 33, 34, 43, 44, 45, 46, 15, 47, 48, 49, 50, 51, 52, 53, 54, 55, 56, 57, 58, 66, 67, 68, 69, 70, 71, 72, 73, 74, 75, 76, 77, 78, 79, 80, 88, 89, 91, 92, 93, 94, 95, 96, 90, 97] (by decide +kernel) (by decide +kernel)
set_option maxRecDepth 20000 in
theorem gX10_next_X10_possibleFires : GoodIn wsX10_next (wsV RX10 237 RX10 yX10_possibleFires wsX10_possibleFires) := goodIn_app (goodIn_of _ (by decide +kernel)) ggX10_next_X10_possibleFires
set_option maxRecDepth 20000 in
theorem ggX10_next_X10_firesSmelt : GoodIn wsX10_next wsX10_firesSmelt := goodIn_r _ [47, 48, 49, 50, 51, 52, 53, 54, 55, 30, 31, 32, 33, 34, 66, 67, 68, 69, 70, 71, 72, 73, 74, 75, 76, 77, 78, 79, 80, 97, 90] (by decide +kernel) (by decide +kernel)
set_option maxRecDepth 20000 in
theorem gX10_next_X10_firesSmelt : GoodIn wsX10_next (wsV RX10 240 RX10 yX10_firesSmelt wsX10_firesSmelt) := goodIn_app (goodIn_of _ (by decide +kernel)) ggX10_next_X10_firesSmelt
set_option maxRecDepth 20000 in
theorem ggX10_next_J6_bitCount_0f7a4 : GoodIn wsX10_next wsJ6_bitCount_0f7a4 := goodIn_r _ [62, 63, 64, 65] (by decide +kernel) (by decide +kernel)
set_option maxRecDepth 20000 in
theorem gX10_next_J6_bitCount_0f7a4 : GoodIn wsX10_next (va_wsS RX10 206 yJ6_bitCount_0f7a4 wsJ6_bitCount_0f7a4) := goodIn_app (goodIn_of _ (by decide +kernel)) ggX10_next_J6_bitCount_0f7a4
theorem dX10_next_0 : decode cX10_next 0 = .ok (.aload_n 0, 1) := by decide +kernel
theorem dX10_next_1 : decode cX10_next 1 = .ok (.getfield 19, 3) := by decide +kernel
theorem dX10_next_4 : decode cX10_next 4 = .ok (.invokevirtual 152, 3) := by decide +kernel
theorem dX10_next_7 : decode cX10_next 7 = .ok (.ifCond .ne 6, 3) := by decide +kernel
theorem dX10_next_10 : decode cX10_next 10 = .ok (.bipush (-103), 2) := by decide +kernel
theorem dX10_next_12 : decode cX10_next 12 = .ok (.ireturn, 1) := by decide +kernel
theorem dX10_next_13 : decode cX10_next 13 = .ok (.aload_n 0, 1) := by decide +kernel
theorem dX10_next_14 : decode cX10_next 14 = .ok (.iload_n 1, 1) := by decide +kernel
theorem dX10_next_15 : decode cX10_next 15 = .ok (.iload_n 2, 1) := by decide +kernel
theorem dX10_next_16 : decode cX10_next 16 = .ok (.invokevirtual 234, 3) := by decide +kernel
theorem dX10_next_19 : decode cX10_next 19 = .ok (.ifCond .ne 6, 3) := by decide +kernel
theorem dX10_next_22 : decode cX10_next 22 = .ok (.bipush (-102), 2) := by decide +kernel
theorem dX10_next_24 : decode cX10_next 24 = .ok (.ireturn, 1) := by decide +kernel
theorem dX10_next_25 : decode cX10_next 25 = .ok (.aload_n 0, 1) := by decide +kernel
theorem dX10_next_26 : decode cX10_next 26 = .ok (.iload_n 1, 1) := by decide +kernel
theorem dX10_next_27 : decode cX10_next 27 = .ok (.iload_n 2, 1) := by decide +kernel
theorem dX10_next_28 : decode cX10_next 28 = .ok (.invokevirtual 237, 3) := by decide +kernel
theorem dX10_next_31 : decode cX10_next 31 = .ok (.istore_n 3, 1) := by decide +kernel
theorem dX10_next_32 : decode cX10_next 32 = .ok (.iconst 0, 1) := by decide +kernel
theorem dX10_next_33 : decode cX10_next 33 = .ok (.istore 4, 2) := by decide +kernel
theorem dX10_next_35 : decode cX10_next 35 = .ok (.bipush 8, 2) := by decide +kernel
theorem dX10_next_37 : decode cX10_next 37 = .ok (.istore 5, 2) := by decide +kernel
theorem dX10_next_39 : decode cX10_next 39 = .ok (.iconst 0, 1) := by decide +kernel
theorem dX10_next_40 : decode cX10_next 40 = .ok (.istore 6, 2) := by decide +kernel
theorem dX10_next_42 : decode cX10_next 42 = .ok (.iload 6, 2) := by decide +kernel
theorem dX10_next_44 : decode cX10_next 44 = .ok (.bipush 7, 2) := by decide +kernel
theorem dX10_next_46 : decode cX10_next 46 = .ok (.if_icmp .ge 52, 3) := by decide +kernel
theorem dX10_next_49 : decode cX10_next 49 = .ok (.iload_n 3, 1) := by decide +kernel
theorem dX10_next_50 : decode cX10_next 50 = .ok (.aload_n 0, 1) := by decide +kernel
theorem dX10_next_51 : decode cX10_next 51 = .ok (.iload 6, 2) := by decide +kernel
theorem dX10_next_53 : decode cX10_next 53 = .ok (.iload_n 1, 1) := by decide +kernel
theorem dX10_next_54 : decode cX10_next 54 = .ok (.invokevirtual 240, 3) := by decide +kernel
theorem dX10_next_57 : decode cX10_next 57 = .ok (.iand, 1) := by decide +kernel
theorem dX10_next_58 : decode cX10_next 58 = .ok (.invokestatic 206, 3) := by decide +kernel
theorem dX10_next_61 : decode cX10_next 61 = .ok (.istore 7, 2) := by decide +kernel
theorem dX10_next_63 : decode cX10_next 63 = .ok (.iload 7, 2) := by decide +kernel
theorem dX10_next_65 : decode cX10_next 65 = .ok (.iload_n 3, 1) := by decide +kernel
theorem dX10_next_66 : decode cX10_next 66 = .ok (.invokestatic 206, 3) := by decide +kernel
theorem dX10_next_69 : decode cX10_next 69 = .ok (.iload 7, 2) := by decide +kernel
theorem dX10_next_71 : decode cX10_next 71 = .ok (.isub, 1) := by decide +kernel
theorem dX10_next_72 : decode cX10_next 72 = .ok (.invokestatic 243, 3) := by decide +kernel
theorem dX10_next_75 : decode cX10_next 75 = .ok (.istore 8, 2) := by decide +kernel
theorem dX10_next_77 : decode cX10_next 77 = .ok (.iload 8, 2) := by decide +kernel
theorem dX10_next_79 : decode cX10_next 79 = .ok (.iload 5, 2) := by decide +kernel
theorem dX10_next_81 : decode cX10_next 81 = .ok (.if_icmp .ge 11, 3) := by decide +kernel
theorem dX10_next_84 : decode cX10_next 84 = .ok (.iload 8, 2) := by decide +kernel
theorem dX10_next_86 : decode cX10_next 86 = .ok (.istore 5, 2) := by decide +kernel
theorem dX10_next_88 : decode cX10_next 88 = .ok (.iload 6, 2) := by decide +kernel
theorem dX10_next_90 : decode cX10_next 90 = .ok (.istore 4, 2) := by decide +kernel
theorem dX10_next_92 : decode cX10_next 92 = .ok (.iinc 6 1, 3) := by decide +kernel
theorem dX10_next_95 : decode cX10_next 95 = .ok (.goto (-53), 3) := by decide +kernel
theorem dX10_next_98 : decode cX10_next 98 = .ok (.iload 4, 2) := by decide +kernel
theorem dX10_next_100 : decode cX10_next 100 = .ok (.ireturn, 1) := by decide +kernel
set_option maxRecDepth 20000 in
theorem ggX10_rescue_X5_isRead : GoodIn wsX10_rescue wsX5_isRead := goodIn_r _ [10, 11, 126, 127, 128, 129, 130, 131, 132] (by decide +kernel) (by decide +kernel)
set_option maxRecDepth 20000 in
theorem gX10_rescue_X5_isRead : GoodIn wsX10_rescue (wsV RX10 152 RX5 yX5_isRead wsX5_isRead) := goodIn_app (goodIn_of _ (by decide +kernel)) ggX10_rescue_X5_isRead
set_option maxRecDepth 20000 in
theorem ggX10_rescue_X10_isKnot : GoodIn wsX10_rescue wsX10_isKnot := goodIn_r _ [15] (by decide +kernel) (by decide +kernel)
set_option maxRecDepth 20000 in
theorem gX10_rescue_X10_isKnot : GoodIn wsX10_rescue (va_wsS RX10 155 yX10_isKnot wsX10_isKnot) := goodIn_app (goodIn_of _ (by decide +kernel)) ggX10_rescue_X10_isKnot
set_option maxRecDepth 20000 in
theorem ggX10_rescue_X10_isKnotSet : GoodIn wsX10_rescue wsX10_isKnotSet := goodIn_r _ [18] (by decide +kernel) (by decide +kernel)
set_option maxRecDepth 20000 in
theorem gX10_rescue_X10_isKnotSet : GoodIn wsX10_rescue (va_wsS RX10 218 yX10_isKnotSet wsX10_isKnotSet) := goodIn_app (goodIn_of _ (by decide +kernel)) ggX10_rescue_X10_isKnotSet
set_option maxRecDepth 20000 in
theorem ggX10_rescue_J6_bitCount_0f7a4 : GoodIn wsX10_rescue wsJ6_bitCount_0f7a4 := goodIn_r _ [22, 23, 24, 25] (by decide +kernel) (by decide +kernel)
set_option maxRecDepth 20000 in
theorem gX10_rescue_J6_bitCount_0f7a4 : GoodIn wsX10_rescue (va_wsS RX10 206 yJ6_bitCount_0f7a4 wsJ6_bitCount_0f7a4) := goodIn_app (goodIn_of _ (by decide +kernel)) ggX10_rescue_J6_bitCount_0f7a4
set_option maxRecDepth 20000 in
theorem ggX10_rescue_X7_findBest : GoodIn wsX10_rescue wsX7_findBest := goodIn_r _ [30, 31, 32, 33, 34, 35, 36, 37, 38, 29, 39, 40, 41, 42, 43, 44, 45, 46, 47, 48, 49, 50, 51, 52, 53, 54, 55, 56, 57, 58, 59, 60, 61, 14, 62, 63, 64, 65, 66, 67, 68, 69, 70, 71, 72, 73, 74, 75, 76, 77, 78, 79, 80, 81, 82, 83, 84, 85, 86, 87, 88, 89, 90, 91, 92, 93, 94, 95, 96, 97, 98, 99, 100, 101, 102, 103, 104, 121, 122, 123, 124, 125, 133, 134, 135, 136, 137, 138, 126, 127, 128, 129, 130, 131, 132, 139, 140] (by decide +kernel) (by decide +kernel)
set_option maxRecDepth 20000 in
theorem gX10_rescue_X7_findBest : GoodIn wsX10_rescue (wsV RX10 248 RX7 yX7_findBest wsX7_findBest) := goodIn_app (goodIn_of _ (by decide +kernel)) ggX10_rescue_X7_findBest
set_option maxRecDepth 20000 in
theorem ggX10_rescue_X8_get : GoodIn wsX10_rescue wsX8_get := goodIn_r _ [66, 56, 140] (by decide +kernel) (by decide +kernel)
set_option maxRecDepth 20000 in
theorem gX10_rescue_X8_get : GoodIn wsX10_rescue (wsV RX10 128 RX8 yX8_get wsX8_get) := goodIn_app (goodIn_of _ (by decide +kernel)) ggX10_rescue_X8_get
theorem dX10_rescue_0 : decode cX10_rescue 0 = .ok (.aload_n 0, 1) := by decide +kernel
theorem dX10_rescue_1 : decode cX10_rescue 1 = .ok (.getfield 19, 3) := by decide +kernel
theorem dX10_rescue_4 : decode cX10_rescue 4 = .ok (.invokevirtual 152, 3) := by decide +kernel
theorem dX10_rescue_7 : decode cX10_rescue 7 = .ok (.ifCond .ne 6, 3) := by decide +kernel
theorem dX10_rescue_10 : decode cX10_rescue 10 = .ok (.bipush (-103), 2) := by decide +kernel
theorem dX10_rescue_12 : decode cX10_rescue 12 = .ok (.ireturn, 1) := by decide +kernel
theorem dX10_rescue_13 : decode cX10_rescue 13 = .ok (.iload_n 1, 1) := by decide +kernel
theorem dX10_rescue_14 : decode cX10_rescue 14 = .ok (.invokestatic 155, 3) := by decide +kernel
theorem dX10_rescue_17 : decode cX10_rescue 17 = .ok (.ifCond .ne 6, 3) := by decide +kernel
theorem dX10_rescue_20 : decode cX10_rescue 20 = .ok (.bipush (-101), 2) := by decide +kernel
theorem dX10_rescue_22 : decode cX10_rescue 22 = .ok (.ireturn, 1) := by decide +kernel
theorem dX10_rescue_23 : decode cX10_rescue 23 = .ok (.iload_n 3, 1) := by decide +kernel
theorem dX10_rescue_24 : decode cX10_rescue 24 = .ok (.bipush 10, 2) := by decide +kernel
theorem dX10_rescue_26 : decode cX10_rescue 26 = .ok (.isub, 1) := by decide +kernel
theorem dX10_rescue_27 : decode cX10_rescue 27 = .ok (.istore 4, 2) := by decide +kernel
theorem dX10_rescue_29 : decode cX10_rescue 29 = .ok (.iload_n 3, 1) := by decide +kernel
theorem dX10_rescue_30 : decode cX10_rescue 30 = .ok (.bipush 10, 2) := by decide +kernel
theorem dX10_rescue_32 : decode cX10_rescue 32 = .ok (.if_icmp .lt 13, 3) := by decide +kernel
theorem dX10_rescue_35 : decode cX10_rescue 35 = .ok (.iload 4, 2) := by decide +kernel
theorem dX10_rescue_37 : decode cX10_rescue 37 = .ok (.iconst 5, 1) := by decide +kernel
theorem dX10_rescue_38 : decode cX10_rescue 38 = .ok (.if_icmp .ge 7, 3) := by decide +kernel
theorem dX10_rescue_41 : decode cX10_rescue 41 = .ok (.iconst 1, 1) := by decide +kernel
theorem dX10_rescue_42 : decode cX10_rescue 42 = .ok (.goto 4, 3) := by decide +kernel
theorem dX10_rescue_45 : decode cX10_rescue 45 = .ok (.iconst 0, 1) := by decide +kernel
theorem dX10_rescue_46 : decode cX10_rescue 46 = .ok (.istore 5, 2) := by decide +kernel
theorem dX10_rescue_48 : decode cX10_rescue 48 = .ok (.iload_n 2, 1) := by decide +kernel
theorem dX10_rescue_49 : decode cX10_rescue 49 = .ok (.invokestatic 218, 3) := by decide +kernel
theorem dX10_rescue_52 : decode cX10_rescue 52 = .ok (.ifCond .eq 20, 3) := by decide +kernel
theorem dX10_rescue_55 : decode cX10_rescue 55 = .ok (.iload_n 2, 1) := by decide +kernel
theorem dX10_rescue_56 : decode cX10_rescue 56 = .ok (.invokestatic 206, 3) := by decide +kernel
theorem dX10_rescue_59 : decode cX10_rescue 59 = .ok (.iconst 5, 1) := by decide +kernel
theorem dX10_rescue_60 : decode cX10_rescue 60 = .ok (.if_icmp .gt 12, 3) := by decide +kernel
theorem dX10_rescue_63 : decode cX10_rescue 63 = .ok (.iload_n 3, 1) := by decide +kernel
theorem dX10_rescue_64 : decode cX10_rescue 64 = .ok (.ifCond .eq 11, 3) := by decide +kernel
theorem dX10_rescue_67 : decode cX10_rescue 67 = .ok (.iload 5, 2) := by decide +kernel
theorem dX10_rescue_69 : decode cX10_rescue 69 = .ok (.ifCond .ne 6, 3) := by decide +kernel
theorem dX10_rescue_72 : decode cX10_rescue 72 = .ok (.bipush (-102), 2) := by decide +kernel
theorem dX10_rescue_74 : decode cX10_rescue 74 = .ok (.ireturn, 1) := by decide +kernel
theorem dX10_rescue_75 : decode cX10_rescue 75 = .ok (.aload_n 0, 1) := by decide +kernel
theorem dX10_rescue_76 : decode cX10_rescue 76 = .ok (.getfield 70, 3) := by decide +kernel
theorem dX10_rescue_79 : decode cX10_rescue 79 = .ok (.aload_n 0, 1) := by decide +kernel
theorem dX10_rescue_80 : decode cX10_rescue 80 = .ok (.getfield 19, 3) := by decide +kernel
theorem dX10_rescue_83 : decode cX10_rescue 83 = .ok (.aload_n 0, 1) := by decide +kernel
theorem dX10_rescue_84 : decode cX10_rescue 84 = .ok (.getfield 50, 3) := by decide +kernel
theorem dX10_rescue_87 : decode cX10_rescue 87 = .ok (.iload_n 1, 1) := by decide +kernel
theorem dX10_rescue_88 : decode cX10_rescue 88 = .ok (.iload_n 2, 1) := by decide +kernel
theorem dX10_rescue_89 : decode cX10_rescue 89 = .ok (.invokevirtual 248, 3) := by decide +kernel
theorem dX10_rescue_92 : decode cX10_rescue 92 = .ok (.aload_n 0, 1) := by decide +kernel
theorem dX10_rescue_93 : decode cX10_rescue 93 = .ok (.getfield 70, 3) := by decide +kernel
theorem dX10_rescue_96 : decode cX10_rescue 96 = .ok (.getfield 252, 3) := by decide +kernel
theorem dX10_rescue_99 : decode cX10_rescue 99 = .ok (.iconst (-1), 1) := by decide +kernel
theorem dX10_rescue_100 : decode cX10_rescue 100 = .ok (.if_icmp .eq 7, 3) := by decide +kernel
theorem dX10_rescue_103 : decode cX10_rescue 103 = .ok (.iload_n 3, 1) := by decide +kernel
theorem dX10_rescue_104 : decode cX10_rescue 104 = .ok (.ifCond .ne 11, 3) := by decide +kernel
theorem dX10_rescue_107 : decode cX10_rescue 107 = .ok (.aload_n 0, 1) := by decide +kernel
theorem dX10_rescue_108 : decode cX10_rescue 108 = .ok (.getfield 70, 3) := by decide +kernel
theorem dX10_rescue_111 : decode cX10_rescue 111 = .ok (.getfield 252, 3) := by decide +kernel
theorem dX10_rescue_114 : decode cX10_rescue 114 = .ok (.ireturn, 1) := by decide +kernel
theorem dX10_rescue_115 : decode cX10_rescue 115 = .ok (.iload 4, 2) := by decide +kernel
theorem dX10_rescue_117 : decode cX10_rescue 117 = .ok (.iload_n 2, 1) := by decide +kernel
theorem dX10_rescue_118 : decode cX10_rescue 118 = .ok (.invokestatic 206, 3) := by decide +kernel
theorem dX10_rescue_121 : decode cX10_rescue 121 = .ok (.if_icmp .ge 18, 3) := by decide +kernel
theorem dX10_rescue_124 : decode cX10_rescue 124 = .ok (.aload_n 0, 1) := by decide +kernel
theorem dX10_rescue_125 : decode cX10_rescue 125 = .ok (.getfield 70, 3) := by decide +kernel
theorem dX10_rescue_128 : decode cX10_rescue 128 = .ok (.getfield 255, 3) := by decide +kernel
theorem dX10_rescue_131 : decode cX10_rescue 131 = .ok (.iload 4, 2) := by decide +kernel
theorem dX10_rescue_133 : decode cX10_rescue 133 = .ok (.invokevirtual 128, 3) := by decide +kernel
theorem dX10_rescue_136 : decode cX10_rescue 136 = .ok (.goto 4, 3) := by decide +kernel
theorem dX10_rescue_139 : decode cX10_rescue 139 = .ok (.iconst (-1), 1) := by decide +kernel
theorem dX10_rescue_140 : decode cX10_rescue 140 = .ok (.ireturn, 1) := by decide +kernel
set_option maxRecDepth 20000 in
theorem ggX10_walks_X5_isRead : GoodIn wsX10_walks wsX5_isRead := goodIn_r _ [16, 17, 146, 147, 148, 149, 150, 151, 152] (by decide +kernel) (by decide +kernel)
set_option maxRecDepth 20000 in
theorem gX10_walks_X5_isRead : GoodIn wsX10_walks (wsV RX10 152 RX5 yX5_isRead wsX5_isRead) := goodIn_app (goodIn_of _ (by decide +kernel)) ggX10_walks_X5_isRead
set_option maxRecDepth 20000 in
theorem ggX10_walks_X3_copyFrom : GoodIn wsX10_walks wsX3_copyFrom := goodIn_r _ [22, 23, 24, 25, 26, 27, 28, 29, 30, 31, 32, 33, 34, 35, 36, 37, 38, 140, 141, 142, 143, 144, 145, 153] (by decide +kernel) (by decide +kernel)
set_option maxRecDepth 20000 in
theorem gX10_walks_X3_copyFrom : GoodIn wsX10_walks (wsV RX10 258 RX3 yX3_copyFrom wsX3_copyFrom) := goodIn_app (goodIn_of _ (by decide +kernel)) ggX10_walks_X3_copyFrom
set_option maxRecDepth 20000 in
theorem ggX10_walks_X10_dreamWalk : GoodIn wsX10_walks wsX10_dreamWalk := goodIn_r _ [43, 6, 44, 4, 2, 9, 10, 1, 45, 46, 47, 48, 49, 50, 51, 52, 53, 54, 55, 56, 57, 42, 58, 59, 36, 37, 32, 38, 34, 60, 61, 62, 15, 63, 17, 64, 65, 66, 67, 68, 69, 70, 71, 72, 73, 74, 75, 76, 77, 78, 79, 80, 81, 82, 83, 84, 85, 86, 87, 88, 89, 90, 91, 92, 120, 121, 122, 123, 124, 125, 126, 127, 128, 129, 130, 131, 132, 133, 134, 154, 155, 140, 141, 142, 143, 144, 145, 135, 153, 146, 147, 148, 149, 150, 151, 152] (by decide +kernel) (by decide +kernel)
set_option maxRecDepth 20000 in
theorem gX10_walks_X10_dreamWalk : GoodIn wsX10_walks (wsV RX10 265 RX10 yX10_dreamWalk wsX10_dreamWalk) := goodIn_app (goodIn_of _ (by decide +kernel)) ggX10_walks_X10_dreamWalk
set_option maxRecDepth 20000 in
theorem ggX10_walks_X3_passMinute : GoodIn wsX10_walks wsX3_passMinute := goodIn_r _ [96, 25, 97, 98, 99, 100, 101, 26, 27, 28, 57, 42, 58, 102, 36, 37, 32, 38, 34, 103, 90, 91, 92, 104, 105, 106, 107, 108, 109, 110, 140, 141, 142, 143, 144, 145, 154, 155, 153] (by decide +kernel) (by decide +kernel)
set_option maxRecDepth 20000 in
theorem gX10_walks_X3_passMinute : GoodIn wsX10_walks (wsV RX10 211 RX3 yX3_passMinute wsX3_passMinute) := goodIn_app (goodIn_of _ (by decide +kernel)) ggX10_walks_X3_passMinute
set_option maxRecDepth 20000 in
theorem ggX10_walks_J6_bitCount_0f7a4 : GoodIn wsX10_walks wsJ6_bitCount_0f7a4 := goodIn_r _ [74, 75, 76, 77] (by decide +kernel) (by decide +kernel)
set_option maxRecDepth 20000 in
theorem gX10_walks_J6_bitCount_0f7a4 : GoodIn wsX10_walks (va_wsS RX10 206 yJ6_bitCount_0f7a4 wsJ6_bitCount_0f7a4) := goodIn_app (goodIn_of _ (by decide +kernel)) ggX10_walks_J6_bitCount_0f7a4
set_option maxRecDepth 20000 in
theorem ggX10_walks_X1_has : GoodIn wsX10_walks wsX1_has := goodIn_r _ [114, 115, 154, 155] (by decide +kernel) (by decide +kernel)
set_option maxRecDepth 20000 in
theorem gX10_walks_X1_has : GoodIn wsX10_walks (wsV RX10 187 RX1 yX1_has wsX1_has) := goodIn_app (goodIn_of _ (by decide +kernel)) ggX10_walks_X1_has
set_option maxRecDepth 20000 in
theorem ggX10_walks_X8_get : GoodIn wsX10_walks wsX8_get := goodIn_r _ [38, 34, 153] (by decide +kernel) (by decide +kernel)
set_option maxRecDepth 20000 in
theorem gX10_walks_X8_get : GoodIn wsX10_walks (wsV RX10 128 RX8 yX8_get wsX8_get) := goodIn_app (goodIn_of _ (by decide +kernel)) ggX10_walks_X8_get
set_option maxRecDepth 20000 in
theorem ggX10_walks_X8_sum : GoodIn wsX10_walks wsX8_sum := goodIn_r _ [119, 34, 153] (by decide +kernel) (by decide +kernel)
set_option maxRecDepth 20000 in
theorem gX10_walks_X8_sum : GoodIn wsX10_walks (wsV RX10 268 RX8 yX8_sum wsX8_sum) := goodIn_app (goodIn_of _ (by decide +kernel)) ggX10_walks_X8_sum
theorem dX10_walks_0 : decode cX10_walks 0 = .ok (.aload_n 0, 1) := by decide +kernel
theorem dX10_walks_1 : decode cX10_walks 1 = .ok (.getfield 19, 3) := by decide +kernel
theorem dX10_walks_4 : decode cX10_walks 4 = .ok (.invokevirtual 152, 3) := by decide +kernel
theorem dX10_walks_7 : decode cX10_walks 7 = .ok (.ifCond .ne 6, 3) := by decide +kernel
theorem dX10_walks_10 : decode cX10_walks 10 = .ok (.bipush (-103), 2) := by decide +kernel
theorem dX10_walks_12 : decode cX10_walks 12 = .ok (.ireturn, 1) := by decide +kernel
theorem dX10_walks_13 : decode cX10_walks 13 = .ok (.iload_n 1, 1) := by decide +kernel
theorem dX10_walks_14 : decode cX10_walks 14 = .ok (.iconst 1, 1) := by decide +kernel
theorem dX10_walks_15 : decode cX10_walks 15 = .ok (.if_icmp .lt 22, 3) := by decide +kernel
theorem dX10_walks_18 : decode cX10_walks 18 = .ok (.iload_n 1, 1) := by decide +kernel
theorem dX10_walks_19 : decode cX10_walks 19 = .ok (.bipush 60, 2) := by decide +kernel
theorem dX10_walks_21 : decode cX10_walks 21 = .ok (.if_icmp .gt 16, 3) := by decide +kernel
theorem dX10_walks_24 : decode cX10_walks 24 = .ok (.iload_n 2, 1) := by decide +kernel
theorem dX10_walks_25 : decode cX10_walks 25 = .ok (.ifCond .lt 12, 3) := by decide +kernel
theorem dX10_walks_28 : decode cX10_walks 28 = .ok (.iload_n 3, 1) := by decide +kernel
theorem dX10_walks_29 : decode cX10_walks 29 = .ok (.ifCond .lt 8, 3) := by decide +kernel
theorem dX10_walks_32 : decode cX10_walks 32 = .ok (.iload_n 3, 1) := by decide +kernel
theorem dX10_walks_33 : decode cX10_walks 33 = .ok (.iconst 3, 1) := by decide +kernel
theorem dX10_walks_34 : decode cX10_walks 34 = .ok (.if_icmp .le 6, 3) := by decide +kernel
theorem dX10_walks_37 : decode cX10_walks 37 = .ok (.bipush (-102), 2) := by decide +kernel
theorem dX10_walks_39 : decode cX10_walks 39 = .ok (.ireturn, 1) := by decide +kernel
theorem dX10_walks_40 : decode cX10_walks 40 = .ok (.aload_n 0, 1) := by decide +kernel
theorem dX10_walks_41 : decode cX10_walks 41 = .ok (.getfield 57, 3) := by decide +kernel
theorem dX10_walks_44 : decode cX10_walks 44 = .ok (.aload_n 0, 1) := by decide +kernel
theorem dX10_walks_45 : decode cX10_walks 45 = .ok (.getfield 50, 3) := by decide +kernel
theorem dX10_walks_48 : decode cX10_walks 48 = .ok (.invokevirtual 258, 3) := by decide +kernel
theorem dX10_walks_51 : decode cX10_walks 51 = .ok (.aload_n 0, 1) := by decide +kernel
theorem dX10_walks_52 : decode cX10_walks 52 = .ok (.getfield 63, 3) := by decide +kernel
theorem dX10_walks_55 : decode cX10_walks 55 = .ok (.iload_n 2, 1) := by decide +kernel
theorem dX10_walks_56 : decode cX10_walks 56 = .ok (.putfield 262, 3) := by decide +kernel
theorem dX10_walks_59 : decode cX10_walks 59 = .ok (.iconst 0, 1) := by decide +kernel
theorem dX10_walks_60 : decode cX10_walks 60 = .ok (.istore 4, 2) := by decide +kernel
theorem dX10_walks_62 : decode cX10_walks 62 = .ok (.iload 4, 2) := by decide +kernel
theorem dX10_walks_64 : decode cX10_walks 64 = .ok (.iload_n 1, 1) := by decide +kernel
theorem dX10_walks_65 : decode cX10_walks 65 = .ok (.if_icmp .ge 31, 3) := by decide +kernel
theorem dX10_walks_68 : decode cX10_walks 68 = .ok (.aload_n 0, 1) := by decide +kernel
theorem dX10_walks_69 : decode cX10_walks 69 = .ok (.invokevirtual 265, 3) := by decide +kernel
theorem dX10_walks_72 : decode cX10_walks 72 = .ok (.aload_n 0, 1) := by decide +kernel
theorem dX10_walks_73 : decode cX10_walks 73 = .ok (.getfield 57, 3) := by decide +kernel
theorem dX10_walks_76 : decode cX10_walks 76 = .ok (.aload_n 0, 1) := by decide +kernel
theorem dX10_walks_77 : decode cX10_walks 77 = .ok (.getfield 43, 3) := by decide +kernel
theorem dX10_walks_80 : decode cX10_walks 80 = .ok (.aload_n 0, 1) := by decide +kernel
theorem dX10_walks_81 : decode cX10_walks 81 = .ok (.getfield 26, 3) := by decide +kernel
theorem dX10_walks_84 : decode cX10_walks 84 = .ok (.getfield 164, 3) := by decide +kernel
theorem dX10_walks_87 : decode cX10_walks 87 = .ok (.invokevirtual 211, 3) := by decide +kernel
theorem dX10_walks_90 : decode cX10_walks 90 = .ok (.iinc 4 1, 3) := by decide +kernel
theorem dX10_walks_93 : decode cX10_walks 93 = .ok (.goto (-31), 3) := by decide +kernel
theorem dX10_walks_96 : decode cX10_walks 96 = .ok (.iload_n 3, 1) := by decide +kernel
theorem dX10_walks_97 : decode cX10_walks 97 = .ok (.tableswitch 76 0 2 #[27, 38, 65], 27) := by decide +kernel
theorem dX10_walks_124 : decode cX10_walks 124 = .ok (.aload_n 0, 1) := by decide +kernel
theorem dX10_walks_125 : decode cX10_walks 125 = .ok (.getfield 57, 3) := by decide +kernel
theorem dX10_walks_128 : decode cX10_walks 128 = .ok (.getfield 190, 3) := by decide +kernel
theorem dX10_walks_131 : decode cX10_walks 131 = .ok (.invokestatic 206, 3) := by decide +kernel
theorem dX10_walks_134 : decode cX10_walks 134 = .ok (.ireturn, 1) := by decide +kernel
theorem dX10_walks_135 : decode cX10_walks 135 = .ok (.aload_n 0, 1) := by decide +kernel
theorem dX10_walks_136 : decode cX10_walks 136 = .ok (.getfield 43, 3) := by decide +kernel
theorem dX10_walks_139 : decode cX10_walks 139 = .ok (.iconst 0, 1) := by decide +kernel
theorem dX10_walks_140 : decode cX10_walks 140 = .ok (.invokevirtual 187, 3) := by decide +kernel
theorem dX10_walks_143 : decode cX10_walks 143 = .ok (.ifCond .eq 17, 3) := by decide +kernel
theorem dX10_walks_146 : decode cX10_walks 146 = .ok (.aload_n 0, 1) := by decide +kernel
theorem dX10_walks_147 : decode cX10_walks 147 = .ok (.getfield 57, 3) := by decide +kernel
theorem dX10_walks_150 : decode cX10_walks 150 = .ok (.getfield 184, 3) := by decide +kernel
theorem dX10_walks_153 : decode cX10_walks 153 = .ok (.iconst 0, 1) := by decide +kernel
theorem dX10_walks_154 : decode cX10_walks 154 = .ok (.invokevirtual 128, 3) := by decide +kernel
theorem dX10_walks_157 : decode cX10_walks 157 = .ok (.goto 4, 3) := by decide +kernel
theorem dX10_walks_160 : decode cX10_walks 160 = .ok (.iconst (-1), 1) := by decide +kernel
theorem dX10_walks_161 : decode cX10_walks 161 = .ok (.ireturn, 1) := by decide +kernel
theorem dX10_walks_162 : decode cX10_walks 162 = .ok (.aload_n 0, 1) := by decide +kernel
theorem dX10_walks_163 : decode cX10_walks 163 = .ok (.getfield 57, 3) := by decide +kernel
theorem dX10_walks_166 : decode cX10_walks 166 = .ok (.getfield 167, 3) := by decide +kernel
theorem dX10_walks_169 : decode cX10_walks 169 = .ok (.invokevirtual 268, 3) := by decide +kernel
theorem dX10_walks_172 : decode cX10_walks 172 = .ok (.ireturn, 1) := by decide +kernel
theorem dX10_walks_173 : decode cX10_walks 173 = .ok (.aload_n 0, 1) := by decide +kernel
theorem dX10_walks_174 : decode cX10_walks 174 = .ok (.getfield 63, 3) := by decide +kernel
theorem dX10_walks_177 : decode cX10_walks 177 = .ok (.getfield 262, 3) := by decide +kernel
theorem dX10_walks_180 : decode cX10_walks 180 = .ok (.ireturn, 1) := by decide +kernel
set_option maxRecDepth 20000 in
theorem ggX10_image_X5_isRead : GoodIn wsX10_image wsX5_isRead := goodIn_r _ [14, 15, 60, 61, 62, 63, 64, 65, 66] (by decide +kernel) (by decide +kernel)
set_option maxRecDepth 20000 in
theorem gX10_image_X5_isRead : GoodIn wsX10_image (wsV RX10 152 RX5 yX5_isRead wsX5_isRead) := goodIn_app (goodIn_of _ (by decide +kernel)) ggX10_image_X5_isRead
set_option maxRecDepth 20000 in
theorem ggX10_image_X3_copyFrom : GoodIn wsX10_image wsX3_copyFrom := goodIn_r _ [20, 21, 22, 23, 24, 25, 26, 27, 28, 29, 30, 31, 32, 33, 34, 35, 36, 54, 55, 56, 57, 58, 59, 67] (by decide +kernel) (by decide +kernel)
set_option maxRecDepth 20000 in
theorem gX10_image_X3_copyFrom : GoodIn wsX10_image (wsV RX10 258 RX3 yX3_copyFrom wsX3_copyFrom) := goodIn_app (goodIn_of _ (by decide +kernel)) ggX10_image_X3_copyFrom
theorem dX10_image_0 : decode cX10_image 0 = .ok (.aload_n 0, 1) := by decide +kernel
theorem dX10_image_1 : decode cX10_image 1 = .ok (.getfield 19, 3) := by decide +kernel
theorem dX10_image_4 : decode cX10_image 4 = .ok (.invokevirtual 152, 3) := by decide +kernel
theorem dX10_image_7 : decode cX10_image 7 = .ok (.ifCond .ne 6, 3) := by decide +kernel
theorem dX10_image_10 : decode cX10_image 10 = .ok (.bipush (-103), 2) := by decide +kernel
theorem dX10_image_12 : decode cX10_image 12 = .ok (.ireturn, 1) := by decide +kernel
theorem dX10_image_13 : decode cX10_image 13 = .ok (.aload_n 0, 1) := by decide +kernel
theorem dX10_image_14 : decode cX10_image 14 = .ok (.getfield 54, 3) := by decide +kernel
theorem dX10_image_17 : decode cX10_image 17 = .ok (.aload_n 0, 1) := by decide +kernel
theorem dX10_image_18 : decode cX10_image 18 = .ok (.getfield 50, 3) := by decide +kernel
theorem dX10_image_21 : decode cX10_image 21 = .ok (.invokevirtual 258, 3) := by decide +kernel
theorem dX10_image_24 : decode cX10_image 24 = .ok (.aload_n 0, 1) := by decide +kernel
theorem dX10_image_25 : decode cX10_image 25 = .ok (.aload_n 0, 1) := by decide +kernel
theorem dX10_image_26 : decode cX10_image 26 = .ok (.getfield 111, 3) := by decide +kernel
theorem dX10_image_29 : decode cX10_image 29 = .ok (.putfield 74, 3) := by decide +kernel
theorem dX10_image_32 : decode cX10_image 32 = .ok (.aload_n 0, 1) := by decide +kernel
theorem dX10_image_33 : decode cX10_image 33 = .ok (.aload_n 0, 1) := by decide +kernel
theorem dX10_image_34 : decode cX10_image 34 = .ok (.getfield 43, 3) := by decide +kernel
theorem dX10_image_37 : decode cX10_image 37 = .ok (.getfield 101, 3) := by decide +kernel
theorem dX10_image_40 : decode cX10_image 40 = .ok (.putfield 271, 3) := by decide +kernel
theorem dX10_image_43 : decode cX10_image 43 = .ok (.aload_n 0, 1) := by decide +kernel
theorem dX10_image_44 : decode cX10_image 44 = .ok (.getfield 50, 3) := by decide +kernel
theorem dX10_image_47 : decode cX10_image 47 = .ok (.getfield 274, 3) := by decide +kernel
theorem dX10_image_50 : decode cX10_image 50 = .ok (.ireturn, 1) := by decide +kernel
set_option maxRecDepth 20000 in
theorem ggX10_restore_X3_copyFrom : GoodIn wsX10_restore wsX3_copyFrom := goodIn_r _ [13, 14, 15, 16, 17, 18, 19, 20, 21, 22, 23, 24, 25, 26, 27, 28, 29, 146, 147, 148, 149, 150, 151, 152] (by decide +kernel) (by decide +kernel)
set_option maxRecDepth 20000 in
theorem gX10_restore_X3_copyFrom : GoodIn wsX10_restore (wsV RX10 258 RX3 yX3_copyFrom wsX3_copyFrom) := goodIn_app (goodIn_of _ (by decide +kernel)) ggX10_restore_X3_copyFrom
set_option maxRecDepth 20000 in
theorem ggX10_restore_X10_windChanges : GoodIn wsX10_restore wsX10_windChanges := goodIn_r _ [34, 35, 36, 6, 37, 38, 39, 40, 41, 42, 43, 44, 45, 46, 47, 48, 49, 50, 51, 52, 53, 54, 55, 56, 57, 23, 58, 25, 59, 33, 60, 61, 27, 28, 29, 62, 63, 64, 65, 66, 67, 68, 69, 70, 71, 72, 73, 74, 75, 76, 77, 78, 79, 80, 81, 82, 83, 84, 85, 86, 87, 88, 89, 90, 91, 92, 93, 94, 95, 96, 97, 98, 99, 100, 101, 102, 103, 104, 105, 106, 107, 108, 109, 110, 111, 112, 113, 114, 115, 116, 117, 118, 119, 120, 121, 122, 123, 124, 125, 126, 127, 128, 129, 130, 131, 132, 133, 134, 135, 136, 137, 138, 139, 140, 141, 142, 143, 146, 147, 148, 149, 150, 151, 153, 154, 155, 156, 157, 158, 159, 160, 161, 162, 163, 152, 164] (by decide +kernel) (by decide +kernel)
set_option maxRecDepth 20000 in
theorem gX10_restore_X10_windChanges : GoodIn wsX10_restore (wsV RX10 114 RX10 yX10_windChanges wsX10_windChanges) := goodIn_app (goodIn_of _ (by decide +kernel)) ggX10_restore_X10_windChanges
theorem dX10_restore_0 : decode cX10_restore 0 = .ok (.aload_n 0, 1) := by decide +kernel
theorem dX10_restore_1 : decode cX10_restore 1 = .ok (.getfield 74, 3) := by decide +kernel
theorem dX10_restore_4 : decode cX10_restore 4 = .ok (.aload_n 0, 1) := by decide +kernel
theorem dX10_restore_5 : decode cX10_restore 5 = .ok (.getfield 111, 3) := by decide +kernel
theorem dX10_restore_8 : decode cX10_restore 8 = .ok (.if_icmp .ne 17, 3) := by decide +kernel
theorem dX10_restore_11 : decode cX10_restore 11 = .ok (.aload_n 0, 1) := by decide +kernel
theorem dX10_restore_12 : decode cX10_restore 12 = .ok (.getfield 271, 3) := by decide +kernel
theorem dX10_restore_15 : decode cX10_restore 15 = .ok (.aload_n 0, 1) := by decide +kernel
theorem dX10_restore_16 : decode cX10_restore 16 = .ok (.getfield 43, 3) := by decide +kernel
theorem dX10_restore_19 : decode cX10_restore 19 = .ok (.getfield 101, 3) := by decide +kernel
theorem dX10_restore_22 : decode cX10_restore 22 = .ok (.if_icmp .eq 6, 3) := by decide +kernel
theorem dX10_restore_25 : decode cX10_restore 25 = .ok (.bipush (-103), 2) := by decide +kernel
theorem dX10_restore_27 : decode cX10_restore 27 = .ok (.ireturn, 1) := by decide +kernel
theorem dX10_restore_28 : decode cX10_restore 28 = .ok (.aload_n 0, 1) := by decide +kernel
theorem dX10_restore_29 : decode cX10_restore 29 = .ok (.getfield 50, 3) := by decide +kernel
theorem dX10_restore_32 : decode cX10_restore 32 = .ok (.aload_n 0, 1) := by decide +kernel
theorem dX10_restore_33 : decode cX10_restore 33 = .ok (.getfield 54, 3) := by decide +kernel
theorem dX10_restore_36 : decode cX10_restore 36 = .ok (.invokevirtual 258, 3) := by decide +kernel
theorem dX10_restore_39 : decode cX10_restore 39 = .ok (.aload_n 0, 1) := by decide +kernel
theorem dX10_restore_40 : decode cX10_restore 40 = .ok (.invokevirtual 114, 3) := by decide +kernel
theorem dX10_restore_43 : decode cX10_restore 43 = .ok (.aload_n 0, 1) := by decide +kernel
theorem dX10_restore_44 : decode cX10_restore 44 = .ok (.getfield 50, 3) := by decide +kernel
theorem dX10_restore_47 : decode cX10_restore 47 = .ok (.getfield 274, 3) := by decide +kernel
theorem dX10_restore_50 : decode cX10_restore 50 = .ok (.ireturn, 1) := by decide +kernel
set_option maxRecDepth 20000 in
theorem ggX10_count_J6_bitCount_0f7a4 : GoodIn wsX10_count wsJ6_bitCount_0f7a4 := goodIn_r _ [17, 18, 19, 20] (by decide +kernel) (by decide +kernel)
set_option maxRecDepth 20000 in
theorem gX10_count_J6_bitCount_0f7a4 : GoodIn wsX10_count (va_wsS RX10 206 yJ6_bitCount_0f7a4 wsJ6_bitCount_0f7a4) := goodIn_app (goodIn_of _ (by decide +kernel)) ggX10_count_J6_bitCount_0f7a4
theorem dX10_count_0 : decode cX10_count 0 = .ok (.iload_n 1, 1) := by decide +kernel
theorem dX10_count_1 : decode cX10_count 1 = .ok (.tableswitch 131 0 8 #[51, 59, 70, 81, 89, 105, 113, 121, 126], 51) := by decide +kernel
theorem dX10_count_52 : decode cX10_count 52 = .ok (.aload_n 0, 1) := by decide +kernel
theorem dX10_count_53 : decode cX10_count 53 = .ok (.getfield 19, 3) := by decide +kernel
theorem dX10_count_56 : decode cX10_count 56 = .ok (.getfield 117, 3) := by decide +kernel
theorem dX10_count_59 : decode cX10_count 59 = .ok (.ireturn, 1) := by decide +kernel
theorem dX10_count_60 : decode cX10_count 60 = .ok (.aload_n 0, 1) := by decide +kernel
theorem dX10_count_61 : decode cX10_count 61 = .ok (.getfield 19, 3) := by decide +kernel
theorem dX10_count_64 : decode cX10_count 64 = .ok (.getfield 139, 3) := by decide +kernel
theorem dX10_count_67 : decode cX10_count 67 = .ok (.invokestatic 206, 3) := by decide +kernel
theorem dX10_count_70 : decode cX10_count 70 = .ok (.ireturn, 1) := by decide +kernel
theorem dX10_count_71 : decode cX10_count 71 = .ok (.aload_n 0, 1) := by decide +kernel
theorem dX10_count_72 : decode cX10_count 72 = .ok (.getfield 19, 3) := by decide +kernel
theorem dX10_count_75 : decode cX10_count 75 = .ok (.getfield 277, 3) := by decide +kernel
theorem dX10_count_78 : decode cX10_count 78 = .ok (.invokestatic 206, 3) := by decide +kernel
theorem dX10_count_81 : decode cX10_count 81 = .ok (.ireturn, 1) := by decide +kernel
theorem dX10_count_82 : decode cX10_count 82 = .ok (.aload_n 0, 1) := by decide +kernel
theorem dX10_count_83 : decode cX10_count 83 = .ok (.getfield 43, 3) := by decide +kernel
theorem dX10_count_86 : decode cX10_count 86 = .ok (.getfield 101, 3) := by decide +kernel
theorem dX10_count_89 : decode cX10_count 89 = .ok (.ireturn, 1) := by decide +kernel
theorem dX10_count_90 : decode cX10_count 90 = .ok (.aload_n 0, 1) := by decide +kernel
theorem dX10_count_91 : decode cX10_count 91 = .ok (.getfield 50, 3) := by decide +kernel
theorem dX10_count_94 : decode cX10_count 94 = .ok (.getfield 170, 3) := by decide +kernel
theorem dX10_count_97 : decode cX10_count 97 = .ok (.ifCond .eq 7, 3) := by decide +kernel
theorem dX10_count_100 : decode cX10_count 100 = .ok (.iconst 1, 1) := by decide +kernel
theorem dX10_count_101 : decode cX10_count 101 = .ok (.goto 4, 3) := by decide +kernel
theorem dX10_count_104 : decode cX10_count 104 = .ok (.iconst 0, 1) := by decide +kernel
theorem dX10_count_105 : decode cX10_count 105 = .ok (.ireturn, 1) := by decide +kernel
theorem dX10_count_106 : decode cX10_count 106 = .ok (.aload_n 0, 1) := by decide +kernel
theorem dX10_count_107 : decode cX10_count 107 = .ok (.getfield 50, 3) := by decide +kernel
theorem dX10_count_110 : decode cX10_count 110 = .ok (.getfield 274, 3) := by decide +kernel
theorem dX10_count_113 : decode cX10_count 113 = .ok (.ireturn, 1) := by decide +kernel
theorem dX10_count_114 : decode cX10_count 114 = .ok (.aload_n 0, 1) := by decide +kernel
theorem dX10_count_115 : decode cX10_count 115 = .ok (.getfield 10, 3) := by decide +kernel
theorem dX10_count_118 : decode cX10_count 118 = .ok (.getfield 82, 3) := by decide +kernel
theorem dX10_count_121 : decode cX10_count 121 = .ok (.ireturn, 1) := by decide +kernel
theorem dX10_count_122 : decode cX10_count 122 = .ok (.aload_n 0, 1) := by decide +kernel
theorem dX10_count_123 : decode cX10_count 123 = .ok (.getfield 111, 3) := by decide +kernel
theorem dX10_count_126 : decode cX10_count 126 = .ok (.ireturn, 1) := by decide +kernel
theorem dX10_count_127 : decode cX10_count 127 = .ok (.aload_n 0, 1) := by decide +kernel
theorem dX10_count_128 : decode cX10_count 128 = .ok (.getfield 221, 3) := by decide +kernel
theorem dX10_count_131 : decode cX10_count 131 = .ok (.ireturn, 1) := by decide +kernel
theorem dX10_count_132 : decode cX10_count 132 = .ok (.bipush (-102), 2) := by decide +kernel
theorem dX10_count_134 : decode cX10_count 134 = .ok (.ireturn, 1) := by decide +kernel
set_option maxRecDepth 20000 in
theorem ggX10_digest_X10_gallery : GoodIn wsX10_digest wsX10_gallery := goodIn_r _ [14, 2, 15, 16, 17, 18, 19, 20, 21, 22, 23, 24, 25, 26, 27, 28, 29, 30, 31, 32, 33, 34, 35, 36, 13, 37, 124, 125, 126, 127, 128, 129, 130, 131, 132, 133, 134, 135, 136, 137, 138, 139, 140, 141, 142, 143, 144, 145, 151, 152, 153, 154, 155, 156, 157, 158, 159, 160, 161] (by decide +kernel) (by decide +kernel)
set_option maxRecDepth 20000 in
theorem gX10_digest_X10_gallery : GoodIn wsX10_digest (wsV RX10 284 RX10 yX10_gallery wsX10_gallery) := goodIn_app (goodIn_of _ (by decide +kernel)) ggX10_digest_X10_gallery
set_option maxRecDepth 20000 in
theorem ggX10_digest_X5_isRead : GoodIn wsX10_digest wsX5_isRead := goodIn_r _ [41, 28, 139, 140, 141, 142, 143, 144, 145] (by decide +kernel) (by decide +kernel)
set_option maxRecDepth 20000 in
theorem gX10_digest_X5_isRead : GoodIn wsX10_digest (wsV RX10 152 RX5 yX5_isRead wsX5_isRead) := goodIn_app (goodIn_of _ (by decide +kernel)) ggX10_digest_X5_isRead
set_option maxRecDepth 20000 in
theorem ggX10_digest_X10_knot : GoodIn wsX10_digest wsX10_knot := goodIn_r _ [45, 2, 46, 21, 47, 48, 19, 49, 38, 39, 40, 26, 41, 28, 50, 51, 13, 52, 29, 30, 31, 32, 33, 34, 35, 36, 37, 124, 125, 126, 127, 128, 129, 130, 131, 132, 133, 134, 135, 136, 137, 138, 139, 140, 141, 142, 143, 144, 145, 157, 158, 159, 160, 151, 152, 153, 154, 155, 156, 161] (by decide +kernel) (by decide +kernel)
set_option maxRecDepth 20000 in
theorem gX10_digest_X10_knot : GoodIn wsX10_digest (wsV RX10 287 RX10 yX10_knot wsX10_knot) := goodIn_app (goodIn_of _ (by decide +kernel)) ggX10_digest_X10_knot
set_option maxRecDepth 20000 in
theorem ggX10_digest_X10_smelt : GoodIn wsX10_digest wsX10_smelt := goodIn_r _ [56, 2, 57, 38, 39, 40, 26, 41, 28, 50, 51, 13, 52, 58, 59, 60, 61, 62, 63, 64, 30, 31, 32, 33, 34, 124, 125, 126, 127, 128, 129, 130, 131, 132, 133, 134, 135, 136, 137, 138, 139, 140, 141, 142, 143, 144, 145, 162, 161] (by decide +kernel) (by decide +kernel)
set_option maxRecDepth 20000 in
theorem gX10_digest_X10_smelt : GoodIn wsX10_digest (wsV RX10 290 RX10 yX10_smelt wsX10_smelt) := goodIn_app (goodIn_of _ (by decide +kernel)) ggX10_digest_X10_smelt
set_option maxRecDepth 20000 in
theorem ggX10_digest_X10_wayOut : GoodIn wsX10_digest wsX10_wayOut := goodIn_r _ [68, 2, 21, 38, 39, 40, 26, 41, 28, 50, 51, 13, 52, 69, 70, 71, 72, 73, 36, 37, 74, 75, 76, 77, 78, 79, 80, 81, 30, 31, 32, 33, 34, 82, 83, 84, 85, 86, 87, 88, 124, 125, 126, 127, 128, 129, 130, 131, 132, 133, 134, 135, 136, 137, 138, 139, 140, 141, 142, 143, 144, 145, 157, 158, 159, 160, 161] (by decide +kernel) (by decide +kernel)
set_option maxRecDepth 20000 in
theorem gX10_digest_X10_wayOut : GoodIn wsX10_digest (wsV RX10 293 RX10 yX10_wayOut wsX10_wayOut) := goodIn_app (goodIn_of _ (by decide +kernel)) ggX10_digest_X10_wayOut
set_option maxRecDepth 20000 in
theorem ggX10_digest_X10_about : GoodIn wsX10_digest wsX10_about := goodIn_r _ [92, 5, 93, 19, 94, 95, 96, 97, 98, 99, 100, 101, 29, 30, 31, 32, 33, 34, 35, 36, 13, 37, 102, 103, 104, 105, 106, 107, 124, 125, 126, 127, 128, 129, 130, 131, 132, 133, 134, 135, 136, 137, 138, 146, 147, 151, 152, 153, 154, 155, 156, 161] (by decide +kernel) (by decide +kernel)
set_option maxRecDepth 20000 in
theorem gX10_digest_X10_about : GoodIn wsX10_digest (wsV RX10 296 RX10 yX10_about wsX10_about) := goodIn_app (goodIn_of _ (by decide +kernel)) ggX10_digest_X10_about
set_option maxRecDepth 20000 in
theorem ggX10_digest_X8_get : GoodIn wsX10_digest wsX8_get := goodIn_r _ [33, 34, 161] (by decide +kernel) (by decide +kernel)
set_option maxRecDepth 20000 in
theorem gX10_digest_X8_get : GoodIn wsX10_digest (wsV RX10 128 RX8 yX8_get wsX8_get) := goodIn_app (goodIn_of _ (by decide +kernel)) ggX10_digest_X8_get
set_option maxRecDepth 20000 in
theorem ggX10_digest_X10_count : GoodIn wsX10_digest wsX10_count := goodIn_r _ [111, 2, 3, 18, 112, 5, 6, 19, 113, 114, 7, 8, 115, 116, 117, 118, 119, 120, 121, 122, 123, 124, 125, 126, 127, 128, 129, 130, 131, 132, 133, 134, 135, 136, 137, 138, 139, 140, 141, 142, 143, 144, 145, 146, 147, 151, 152, 153, 154, 155, 156, 148, 149, 150] (by decide +kernel) (by decide +kernel)
set_option maxRecDepth 20000 in
theorem gX10_digest_X10_count : GoodIn wsX10_digest (wsV RX10 302 RX10 yX10_count wsX10_count) := goodIn_app (goodIn_of _ (by decide +kernel)) ggX10_digest_X10_count
theorem dX10_digest_0 : decode cX10_digest 0 = .ok (.ldc2_w 280, 3) := by decide +kernel
theorem dX10_digest_3 : decode cX10_digest 3 = .ok (.lstore_n 1, 1) := by decide +kernel
theorem dX10_digest_4 : decode cX10_digest 4 = .ok (.iconst 0, 1) := by decide +kernel
theorem dX10_digest_5 : decode cX10_digest 5 = .ok (.istore_n 3, 1) := by decide +kernel
theorem dX10_digest_6 : decode cX10_digest 6 = .ok (.iload_n 3, 1) := by decide +kernel
theorem dX10_digest_7 : decode cX10_digest 7 = .ok (.aload_n 0, 1) := by decide +kernel
theorem dX10_digest_8 : decode cX10_digest 8 = .ok (.getfield 19, 3) := by decide +kernel
theorem dX10_digest_11 : decode cX10_digest 11 = .ok (.getfield 117, 3) := by decide +kernel
theorem dX10_digest_14 : decode cX10_digest 14 = .ok (.if_icmp .ge 39, 3) := by decide +kernel
theorem dX10_digest_17 : decode cX10_digest 17 = .ok (.iconst 0, 1) := by decide +kernel
theorem dX10_digest_18 : decode cX10_digest 18 = .ok (.istore 4, 2) := by decide +kernel
theorem dX10_digest_20 : decode cX10_digest 20 = .ok (.iload 4, 2) := by decide +kernel
theorem dX10_digest_22 : decode cX10_digest 22 = .ok (.iconst 5, 1) := by decide +kernel
theorem dX10_digest_23 : decode cX10_digest 23 = .ok (.if_icmp .gt 24, 3) := by decide +kernel
theorem dX10_digest_26 : decode cX10_digest 26 = .ok (.ldc2_w 282, 3) := by decide +kernel
theorem dX10_digest_29 : decode cX10_digest 29 = .ok (.lload_n 1, 1) := by decide +kernel
theorem dX10_digest_30 : decode cX10_digest 30 = .ok (.lmul, 1) := by decide +kernel
theorem dX10_digest_31 : decode cX10_digest 31 = .ok (.aload_n 0, 1) := by decide +kernel
theorem dX10_digest_32 : decode cX10_digest 32 = .ok (.iload_n 3, 1) := by decide +kernel
theorem dX10_digest_33 : decode cX10_digest 33 = .ok (.iload 4, 2) := by decide +kernel
theorem dX10_digest_35 : decode cX10_digest 35 = .ok (.invokevirtual 284, 3) := by decide +kernel
theorem dX10_digest_38 : decode cX10_digest 38 = .ok (.i2l, 1) := by decide +kernel
theorem dX10_digest_39 : decode cX10_digest 39 = .ok (.ladd, 1) := by decide +kernel
theorem dX10_digest_40 : decode cX10_digest 40 = .ok (.lstore_n 1, 1) := by decide +kernel
theorem dX10_digest_41 : decode cX10_digest 41 = .ok (.iinc 4 1, 3) := by decide +kernel
theorem dX10_digest_44 : decode cX10_digest 44 = .ok (.goto (-24), 3) := by decide +kernel
theorem dX10_digest_47 : decode cX10_digest 47 = .ok (.iinc 3 1, 3) := by decide +kernel
theorem dX10_digest_50 : decode cX10_digest 50 = .ok (.goto (-44), 3) := by decide +kernel
theorem dX10_digest_53 : decode cX10_digest 53 = .ok (.iconst 0, 1) := by decide +kernel
theorem dX10_digest_54 : decode cX10_digest 54 = .ok (.istore_n 3, 1) := by decide +kernel
theorem dX10_digest_55 : decode cX10_digest 55 = .ok (.iload_n 3, 1) := by decide +kernel
theorem dX10_digest_56 : decode cX10_digest 56 = .ok (.bipush 7, 2) := by decide +kernel
theorem dX10_digest_58 : decode cX10_digest 58 = .ok (.if_icmp .ge 76, 3) := by decide +kernel
theorem dX10_digest_61 : decode cX10_digest 61 = .ok (.aload_n 0, 1) := by decide +kernel
theorem dX10_digest_62 : decode cX10_digest 62 = .ok (.getfield 19, 3) := by decide +kernel
theorem dX10_digest_65 : decode cX10_digest 65 = .ok (.invokevirtual 152, 3) := by decide +kernel
theorem dX10_digest_68 : decode cX10_digest 68 = .ok (.ifCond .eq 66, 3) := by decide +kernel
theorem dX10_digest_71 : decode cX10_digest 71 = .ok (.iconst 0, 1) := by decide +kernel
theorem dX10_digest_72 : decode cX10_digest 72 = .ok (.istore 4, 2) := by decide +kernel
theorem dX10_digest_74 : decode cX10_digest 74 = .ok (.iload 4, 2) := by decide +kernel
theorem dX10_digest_76 : decode cX10_digest 76 = .ok (.iconst 3, 1) := by decide +kernel
theorem dX10_digest_77 : decode cX10_digest 77 = .ok (.if_icmp .gt 24, 3) := by decide +kernel
theorem dX10_digest_80 : decode cX10_digest 80 = .ok (.ldc2_w 282, 3) := by decide +kernel
theorem dX10_digest_83 : decode cX10_digest 83 = .ok (.lload_n 1, 1) := by decide +kernel
theorem dX10_digest_84 : decode cX10_digest 84 = .ok (.lmul, 1) := by decide +kernel
theorem dX10_digest_85 : decode cX10_digest 85 = .ok (.aload_n 0, 1) := by decide +kernel
theorem dX10_digest_86 : decode cX10_digest 86 = .ok (.iload_n 3, 1) := by decide +kernel
theorem dX10_digest_87 : decode cX10_digest 87 = .ok (.iload 4, 2) := by decide +kernel
theorem dX10_digest_89 : decode cX10_digest 89 = .ok (.invokevirtual 287, 3) := by decide +kernel
theorem dX10_digest_92 : decode cX10_digest 92 = .ok (.i2l, 1) := by decide +kernel
theorem dX10_digest_93 : decode cX10_digest 93 = .ok (.ladd, 1) := by decide +kernel
theorem dX10_digest_94 : decode cX10_digest 94 = .ok (.lstore_n 1, 1) := by decide +kernel
theorem dX10_digest_95 : decode cX10_digest 95 = .ok (.iinc 4 1, 3) := by decide +kernel
theorem dX10_digest_98 : decode cX10_digest 98 = .ok (.goto (-24), 3) := by decide +kernel
theorem dX10_digest_101 : decode cX10_digest 101 = .ok (.ldc2_w 282, 3) := by decide +kernel
theorem dX10_digest_104 : decode cX10_digest 104 = .ok (.lload_n 1, 1) := by decide +kernel
theorem dX10_digest_105 : decode cX10_digest 105 = .ok (.lmul, 1) := by decide +kernel
theorem dX10_digest_106 : decode cX10_digest 106 = .ok (.aload_n 0, 1) := by decide +kernel
theorem dX10_digest_107 : decode cX10_digest 107 = .ok (.iload_n 3, 1) := by decide +kernel
theorem dX10_digest_108 : decode cX10_digest 108 = .ok (.iconst 0, 1) := by decide +kernel
theorem dX10_digest_109 : decode cX10_digest 109 = .ok (.invokevirtual 290, 3) := by decide +kernel
theorem dX10_digest_112 : decode cX10_digest 112 = .ok (.i2l, 1) := by decide +kernel
theorem dX10_digest_113 : decode cX10_digest 113 = .ok (.ladd, 1) := by decide +kernel
theorem dX10_digest_114 : decode cX10_digest 114 = .ok (.lstore_n 1, 1) := by decide +kernel
theorem dX10_digest_115 : decode cX10_digest 115 = .ok (.ldc2_w 282, 3) := by decide +kernel
theorem dX10_digest_118 : decode cX10_digest 118 = .ok (.lload_n 1, 1) := by decide +kernel
theorem dX10_digest_119 : decode cX10_digest 119 = .ok (.lmul, 1) := by decide +kernel
theorem dX10_digest_120 : decode cX10_digest 120 = .ok (.aload_n 0, 1) := by decide +kernel
theorem dX10_digest_121 : decode cX10_digest 121 = .ok (.iload_n 3, 1) := by decide +kernel
theorem dX10_digest_122 : decode cX10_digest 122 = .ok (.invokevirtual 293, 3) := by decide +kernel
theorem dX10_digest_125 : decode cX10_digest 125 = .ok (.i2l, 1) := by decide +kernel
theorem dX10_digest_126 : decode cX10_digest 126 = .ok (.ladd, 1) := by decide +kernel
theorem dX10_digest_127 : decode cX10_digest 127 = .ok (.lstore_n 1, 1) := by decide +kernel
theorem dX10_digest_128 : decode cX10_digest 128 = .ok (.iinc 3 1, 3) := by decide +kernel
theorem dX10_digest_131 : decode cX10_digest 131 = .ok (.goto (-76), 3) := by decide +kernel
theorem dX10_digest_134 : decode cX10_digest 134 = .ok (.iconst 0, 1) := by decide +kernel
theorem dX10_digest_135 : decode cX10_digest 135 = .ok (.istore_n 3, 1) := by decide +kernel
theorem dX10_digest_136 : decode cX10_digest 136 = .ok (.iload_n 3, 1) := by decide +kernel
theorem dX10_digest_137 : decode cX10_digest 137 = .ok (.aload_n 0, 1) := by decide +kernel
theorem dX10_digest_138 : decode cX10_digest 138 = .ok (.getfield 43, 3) := by decide +kernel
theorem dX10_digest_141 : decode cX10_digest 141 = .ok (.getfield 101, 3) := by decide +kernel
theorem dX10_digest_144 : decode cX10_digest 144 = .ok (.if_icmp .ge 39, 3) := by decide +kernel
theorem dX10_digest_147 : decode cX10_digest 147 = .ok (.iconst 0, 1) := by decide +kernel
theorem dX10_digest_148 : decode cX10_digest 148 = .ok (.istore 4, 2) := by decide +kernel
theorem dX10_digest_150 : decode cX10_digest 150 = .ok (.iload 4, 2) := by decide +kernel
theorem dX10_digest_152 : decode cX10_digest 152 = .ok (.iconst 3, 1) := by decide +kernel
theorem dX10_digest_153 : decode cX10_digest 153 = .ok (.if_icmp .gt 24, 3) := by decide +kernel
theorem dX10_digest_156 : decode cX10_digest 156 = .ok (.ldc2_w 282, 3) := by decide +kernel
theorem dX10_digest_159 : decode cX10_digest 159 = .ok (.lload_n 1, 1) := by decide +kernel
theorem dX10_digest_160 : decode cX10_digest 160 = .ok (.lmul, 1) := by decide +kernel
theorem dX10_digest_161 : decode cX10_digest 161 = .ok (.aload_n 0, 1) := by decide +kernel
theorem dX10_digest_162 : decode cX10_digest 162 = .ok (.iload_n 3, 1) := by decide +kernel
theorem dX10_digest_163 : decode cX10_digest 163 = .ok (.iload 4, 2) := by decide +kernel
theorem dX10_digest_165 : decode cX10_digest 165 = .ok (.invokevirtual 296, 3) := by decide +kernel
theorem dX10_digest_168 : decode cX10_digest 168 = .ok (.i2l, 1) := by decide +kernel
theorem dX10_digest_169 : decode cX10_digest 169 = .ok (.ladd, 1) := by decide +kernel
theorem dX10_digest_170 : decode cX10_digest 170 = .ok (.lstore_n 1, 1) := by decide +kernel
theorem dX10_digest_171 : decode cX10_digest 171 = .ok (.iinc 4 1, 3) := by decide +kernel
theorem dX10_digest_174 : decode cX10_digest 174 = .ok (.goto (-24), 3) := by decide +kernel
theorem dX10_digest_177 : decode cX10_digest 177 = .ok (.iinc 3 1, 3) := by decide +kernel
theorem dX10_digest_180 : decode cX10_digest 180 = .ok (.goto (-44), 3) := by decide +kernel
theorem dX10_digest_183 : decode cX10_digest 183 = .ok (.iconst 0, 1) := by decide +kernel
theorem dX10_digest_184 : decode cX10_digest 184 = .ok (.istore_n 3, 1) := by decide +kernel
theorem dX10_digest_185 : decode cX10_digest 185 = .ok (.iload_n 3, 1) := by decide +kernel
theorem dX10_digest_186 : decode cX10_digest 186 = .ok (.aload_n 0, 1) := by decide +kernel
theorem dX10_digest_187 : decode cX10_digest 187 = .ok (.getfield 10, 3) := by decide +kernel
theorem dX10_digest_190 : decode cX10_digest 190 = .ok (.getfield 82, 3) := by decide +kernel
theorem dX10_digest_193 : decode cX10_digest 193 = .ok (.if_icmp .ge 28, 3) := by decide +kernel
theorem dX10_digest_196 : decode cX10_digest 196 = .ok (.ldc2_w 282, 3) := by decide +kernel
theorem dX10_digest_199 : decode cX10_digest 199 = .ok (.lload_n 1, 1) := by decide +kernel
theorem dX10_digest_200 : decode cX10_digest 200 = .ok (.lmul, 1) := by decide +kernel
theorem dX10_digest_201 : decode cX10_digest 201 = .ok (.aload_n 0, 1) := by decide +kernel
theorem dX10_digest_202 : decode cX10_digest 202 = .ok (.getfield 10, 3) := by decide +kernel
theorem dX10_digest_205 : decode cX10_digest 205 = .ok (.getfield 299, 3) := by decide +kernel
theorem dX10_digest_208 : decode cX10_digest 208 = .ok (.iload_n 3, 1) := by decide +kernel
theorem dX10_digest_209 : decode cX10_digest 209 = .ok (.invokevirtual 128, 3) := by decide +kernel
theorem dX10_digest_212 : decode cX10_digest 212 = .ok (.i2l, 1) := by decide +kernel
theorem dX10_digest_213 : decode cX10_digest 213 = .ok (.ladd, 1) := by decide +kernel
theorem dX10_digest_214 : decode cX10_digest 214 = .ok (.lstore_n 1, 1) := by decide +kernel
theorem dX10_digest_215 : decode cX10_digest 215 = .ok (.iinc 3 1, 3) := by decide +kernel
theorem dX10_digest_218 : decode cX10_digest 218 = .ok (.goto (-33), 3) := by decide +kernel
theorem dX10_digest_221 : decode cX10_digest 221 = .ok (.iconst 0, 1) := by decide +kernel
theorem dX10_digest_222 : decode cX10_digest 222 = .ok (.istore_n 3, 1) := by decide +kernel
theorem dX10_digest_223 : decode cX10_digest 223 = .ok (.iload_n 3, 1) := by decide +kernel
theorem dX10_digest_224 : decode cX10_digest 224 = .ok (.bipush 8, 2) := by decide +kernel
theorem dX10_digest_226 : decode cX10_digest 226 = .ok (.if_icmp .gt 22, 3) := by decide +kernel
theorem dX10_digest_229 : decode cX10_digest 229 = .ok (.ldc2_w 282, 3) := by decide +kernel
theorem dX10_digest_232 : decode cX10_digest 232 = .ok (.lload_n 1, 1) := by decide +kernel
theorem dX10_digest_233 : decode cX10_digest 233 = .ok (.lmul, 1) := by decide +kernel
theorem dX10_digest_234 : decode cX10_digest 234 = .ok (.aload_n 0, 1) := by decide +kernel
theorem dX10_digest_235 : decode cX10_digest 235 = .ok (.iload_n 3, 1) := by decide +kernel
theorem dX10_digest_236 : decode cX10_digest 236 = .ok (.invokevirtual 302, 3) := by decide +kernel
theorem dX10_digest_239 : decode cX10_digest 239 = .ok (.i2l, 1) := by decide +kernel
theorem dX10_digest_240 : decode cX10_digest 240 = .ok (.ladd, 1) := by decide +kernel
theorem dX10_digest_241 : decode cX10_digest 241 = .ok (.lstore_n 1, 1) := by decide +kernel
theorem dX10_digest_242 : decode cX10_digest 242 = .ok (.iinc 3 1, 3) := by decide +kernel
theorem dX10_digest_245 : decode cX10_digest 245 = .ok (.goto (-22), 3) := by decide +kernel
theorem dX10_digest_248 : decode cX10_digest 248 = .ok (.lload_n 1, 1) := by decide +kernel
theorem dX10_digest_249 : decode cX10_digest 249 = .ok (.lreturn, 1) := by decide +kernel
theorem dX10_isKnot_0 : decode cX10_isKnot 0 = .ok (.iload_n 0, 1) := by decide +kernel
theorem dX10_isKnot_1 : decode cX10_isKnot 1 = .ok (.ifCond .lt 13, 3) := by decide +kernel
theorem dX10_isKnot_4 : decode cX10_isKnot 4 = .ok (.iload_n 0, 1) := by decide +kernel
theorem dX10_isKnot_5 : decode cX10_isKnot 5 = .ok (.bipush 7, 2) := by decide +kernel
theorem dX10_isKnot_7 : decode cX10_isKnot 7 = .ok (.if_icmp .ge 7, 3) := by decide +kernel
theorem dX10_isKnot_10 : decode cX10_isKnot 10 = .ok (.iconst 1, 1) := by decide +kernel
theorem dX10_isKnot_11 : decode cX10_isKnot 11 = .ok (.goto 4, 3) := by decide +kernel
theorem dX10_isKnot_14 : decode cX10_isKnot 14 = .ok (.iconst 0, 1) := by decide +kernel
theorem dX10_isKnot_15 : decode cX10_isKnot 15 = .ok (.ireturn, 1) := by decide +kernel
theorem dX10_isKnotSet_0 : decode cX10_isKnotSet 0 = .ok (.iload_n 0, 1) := by decide +kernel
theorem dX10_isKnotSet_1 : decode cX10_isKnotSet 1 = .ok (.ifCond .lt 14, 3) := by decide +kernel
theorem dX10_isKnotSet_4 : decode cX10_isKnotSet 4 = .ok (.iload_n 0, 1) := by decide +kernel
theorem dX10_isKnotSet_5 : decode cX10_isKnotSet 5 = .ok (.sipush 128, 3) := by decide +kernel
theorem dX10_isKnotSet_8 : decode cX10_isKnotSet 8 = .ok (.if_icmp .ge 7, 3) := by decide +kernel
theorem dX10_isKnotSet_11 : decode cX10_isKnotSet 11 = .ok (.iconst 1, 1) := by decide +kernel
theorem dX10_isKnotSet_12 : decode cX10_isKnotSet 12 = .ok (.goto 4, 3) := by decide +kernel
theorem dX10_isKnotSet_15 : decode cX10_isKnotSet 15 = .ok (.iconst 0, 1) := by decide +kernel
theorem dX10_isKnotSet_16 : decode cX10_isKnotSet 16 = .ok (.ireturn, 1) := by decide +kernel
theorem dX10_bit_0 : decode cX10_bit 0 = .ok (.iload_n 0, 1) := by decide +kernel
theorem dX10_bit_1 : decode cX10_bit 1 = .ok (.iload_n 1, 1) := by decide +kernel
theorem dX10_bit_2 : decode cX10_bit 2 = .ok (.ishr, 1) := by decide +kernel
theorem dX10_bit_3 : decode cX10_bit 3 = .ok (.iconst 1, 1) := by decide +kernel
theorem dX10_bit_4 : decode cX10_bit 4 = .ok (.iand, 1) := by decide +kernel
theorem dX10_bit_5 : decode cX10_bit 5 = .ok (.ireturn, 1) := by decide +kernel
set_option maxRecDepth 20000 in
theorem ggX10_windChanges_X0_blow : GoodIn wsX10_windChanges wsX0_blow := goodIn_r _ [11, 12, 13, 14, 15, 16, 10, 17, 18, 19, 20, 21, 22, 23, 24, 25, 26, 27, 28, 29, 30, 31, 32, 33, 34, 35, 36, 37, 38, 39, 40, 41, 42, 43, 44, 45, 46, 47, 48, 49, 50, 51, 52, 53, 54, 55, 56, 57, 58, 59, 60, 61, 62, 63, 64, 65, 123, 124, 125, 126, 127, 128, 129, 130, 131, 132, 133, 134] (by decide +kernel) (by decide +kernel)
set_option maxRecDepth 20000 in
theorem gX10_windChanges_X0_blow : GoodIn wsX10_windChanges (wsV RX10 305 RX0 yX0_blow wsX0_blow) := goodIn_app (goodIn_of _ (by decide +kernel)) ggX10_windChanges_X0_blow
set_option maxRecDepth 20000 in
theorem ggX10_windChanges_X0_carrySmoke : GoodIn wsX10_windChanges wsX0_carrySmoke := goodIn_r _ [69, 19, 61, 70, 71, 72, 73, 74, 75, 76, 77, 78, 79, 25, 80, 27, 81, 23, 24, 26, 31, 32, 33, 34, 82, 83, 84, 52, 85, 86, 87, 55, 88, 89, 90, 91, 92, 93, 94, 95, 96, 97, 98, 99, 100, 101, 127, 128, 129, 130, 131, 132, 133, 123, 124, 125, 126, 135, 134] (by decide +kernel) (by decide +kernel)
set_option maxRecDepth 20000 in
theorem gX10_windChanges_X0_carrySmoke : GoodIn wsX10_windChanges (wsV RX10 309 RX0 yX0_carrySmoke wsX0_carrySmoke) := goodIn_app (goodIn_of _ (by decide +kernel)) ggX10_windChanges_X0_carrySmoke
theorem dX10_windChanges_0 : decode cX10_windChanges 0 = .ok (.aload_n 0, 1) := by decide +kernel
theorem dX10_windChanges_1 : decode cX10_windChanges 1 = .ok (.getfield 26, 3) := by decide +kernel
theorem dX10_windChanges_4 : decode cX10_windChanges 4 = .ok (.aload_n 0, 1) := by decide +kernel
theorem dX10_windChanges_5 : decode cX10_windChanges 5 = .ok (.getfield 19, 3) := by decide +kernel
theorem dX10_windChanges_8 : decode cX10_windChanges 8 = .ok (.aload_n 0, 1) := by decide +kernel
theorem dX10_windChanges_9 : decode cX10_windChanges 9 = .ok (.getfield 50, 3) := by decide +kernel
theorem dX10_windChanges_12 : decode cX10_windChanges 12 = .ok (.getfield 146, 3) := by decide +kernel
theorem dX10_windChanges_15 : decode cX10_windChanges 15 = .ok (.aload_n 0, 1) := by decide +kernel
theorem dX10_windChanges_16 : decode cX10_windChanges 16 = .ok (.getfield 50, 3) := by decide +kernel
theorem dX10_windChanges_19 : decode cX10_windChanges 19 = .ok (.getfield 170, 3) := by decide +kernel
theorem dX10_windChanges_22 : decode cX10_windChanges 22 = .ok (.invokevirtual 305, 3) := by decide +kernel
theorem dX10_windChanges_25 : decode cX10_windChanges 25 = .ok (.aload_n 0, 1) := by decide +kernel
theorem dX10_windChanges_26 : decode cX10_windChanges 26 = .ok (.getfield 26, 3) := by decide +kernel
theorem dX10_windChanges_29 : decode cX10_windChanges 29 = .ok (.aload_n 0, 1) := by decide +kernel
theorem dX10_windChanges_30 : decode cX10_windChanges 30 = .ok (.getfield 19, 3) := by decide +kernel
theorem dX10_windChanges_33 : decode cX10_windChanges 33 = .ok (.aload_n 0, 1) := by decide +kernel
theorem dX10_windChanges_34 : decode cX10_windChanges 34 = .ok (.getfield 36, 3) := by decide +kernel
theorem dX10_windChanges_37 : decode cX10_windChanges 37 = .ok (.invokevirtual 309, 3) := by decide +kernel
theorem dX10_windChanges_40 : decode cX10_windChanges 40 = .ok (.return_, 1) := by decide +kernel
set_option maxRecDepth 20000 in
theorem ggX10_fewestDoors_J6_bitCount_0f7a4 : GoodIn wsX10_fewestDoors wsJ6_bitCount_0f7a4 := goodIn_r _ [6, 7, 8, 9] (by decide +kernel) (by decide +kernel)
set_option maxRecDepth 20000 in
theorem gX10_fewestDoors_J6_bitCount_0f7a4 : GoodIn wsX10_fewestDoors (va_wsS RX10 206 yJ6_bitCount_0f7a4 wsJ6_bitCount_0f7a4) := goodIn_app (goodIn_of _ (by decide +kernel)) ggX10_fewestDoors_J6_bitCount_0f7a4
set_option maxRecDepth 20000 in
theorem ggX10_fewestDoors_X10_letsBreathe : GoodIn wsX10_fewestDoors wsX10_letsBreathe := goodIn_r _ [14, 15, 1, 16, 17, 18, 19, 20, 21, 22, 23, 24, 25, 26, 27, 28, 29, 30, 31, 32, 33, 34, 35, 36, 37, 38, 39, 40, 41, 13, 42, 43, 44, 45, 46, 47, 48, 49, 50, 51, 52, 53, 54, 4, 5, 6, 7, 8, 9, 55, 56, 57, 58, 59, 60, 61, 62, 63, 64, 65, 66, 67, 68, 69, 70, 71, 72, 73, 74, 75, 76, 77, 78, 79, 80, 81, 82, 83, 84, 85, 86, 94, 95, 96, 97, 98, 99, 100, 101, 102, 103, 87, 88, 89, 90, 91, 92, 93, 104] (by decide +kernel) (by decide +kernel)
set_option maxRecDepth 20000 in
theorem gX10_fewestDoors_X10_letsBreathe : GoodIn wsX10_fewestDoors (wsV RX10 313 RX10 yX10_letsBreathe wsX10_letsBreathe) := goodIn_app (goodIn_of _ (by decide +kernel)) ggX10_fewestDoors_X10_letsBreathe
theorem dX10_fewestDoors_0 : decode cX10_fewestDoors 0 = .ok (.iconst (-1), 1) := by decide +kernel
theorem dX10_fewestDoors_1 : decode cX10_fewestDoors 1 = .ok (.istore_n 2, 1) := by decide +kernel
theorem dX10_fewestDoors_2 : decode cX10_fewestDoors 2 = .ok (.iconst 0, 1) := by decide +kernel
theorem dX10_fewestDoors_3 : decode cX10_fewestDoors 3 = .ok (.istore_n 3, 1) := by decide +kernel
theorem dX10_fewestDoors_4 : decode cX10_fewestDoors 4 = .ok (.iload_n 3, 1) := by decide +kernel
theorem dX10_fewestDoors_5 : decode cX10_fewestDoors 5 = .ok (.aload_n 0, 1) := by decide +kernel
theorem dX10_fewestDoors_6 : decode cX10_fewestDoors 6 = .ok (.getfield 19, 3) := by decide +kernel
theorem dX10_fewestDoors_9 : decode cX10_fewestDoors 9 = .ok (.getfield 139, 3) := by decide +kernel
theorem dX10_fewestDoors_12 : decode cX10_fewestDoors 12 = .ok (.if_icmp .gt 74, 3) := by decide +kernel
theorem dX10_fewestDoors_15 : decode cX10_fewestDoors 15 = .ok (.iload_n 3, 1) := by decide +kernel
theorem dX10_fewestDoors_16 : decode cX10_fewestDoors 16 = .ok (.aload_n 0, 1) := by decide +kernel
theorem dX10_fewestDoors_17 : decode cX10_fewestDoors 17 = .ok (.getfield 19, 3) := by decide +kernel
theorem dX10_fewestDoors_20 : decode cX10_fewestDoors 20 = .ok (.getfield 139, 3) := by decide +kernel
theorem dX10_fewestDoors_23 : decode cX10_fewestDoors 23 = .ok (.iconst (-1), 1) := by decide +kernel
theorem dX10_fewestDoors_24 : decode cX10_fewestDoors 24 = .ok (.ixor, 1) := by decide +kernel
theorem dX10_fewestDoors_25 : decode cX10_fewestDoors 25 = .ok (.iand, 1) := by decide +kernel
theorem dX10_fewestDoors_26 : decode cX10_fewestDoors 26 = .ok (.ifCond .ne 7, 3) := by decide +kernel
theorem dX10_fewestDoors_29 : decode cX10_fewestDoors 29 = .ok (.iconst 1, 1) := by decide +kernel
theorem dX10_fewestDoors_30 : decode cX10_fewestDoors 30 = .ok (.goto 4, 3) := by decide +kernel
theorem dX10_fewestDoors_33 : decode cX10_fewestDoors 33 = .ok (.iconst 0, 1) := by decide +kernel
theorem dX10_fewestDoors_34 : decode cX10_fewestDoors 34 = .ok (.istore 4, 2) := by decide +kernel
theorem dX10_fewestDoors_36 : decode cX10_fewestDoors 36 = .ok (.iload_n 2, 1) := by decide +kernel
theorem dX10_fewestDoors_37 : decode cX10_fewestDoors 37 = .ok (.iconst (-1), 1) := by decide +kernel
theorem dX10_fewestDoors_38 : decode cX10_fewestDoors 38 = .ok (.if_icmp .eq 14, 3) := by decide +kernel
theorem dX10_fewestDoors_41 : decode cX10_fewestDoors 41 = .ok (.iload_n 3, 1) := by decide +kernel
theorem dX10_fewestDoors_42 : decode cX10_fewestDoors 42 = .ok (.invokestatic 206, 3) := by decide +kernel
theorem dX10_fewestDoors_45 : decode cX10_fewestDoors 45 = .ok (.iload_n 2, 1) := by decide +kernel
theorem dX10_fewestDoors_46 : decode cX10_fewestDoors 46 = .ok (.invokestatic 206, 3) := by decide +kernel
theorem dX10_fewestDoors_49 : decode cX10_fewestDoors 49 = .ok (.if_icmp .ge 7, 3) := by decide +kernel
theorem dX10_fewestDoors_52 : decode cX10_fewestDoors 52 = .ok (.iconst 1, 1) := by decide +kernel
theorem dX10_fewestDoors_53 : decode cX10_fewestDoors 53 = .ok (.goto 4, 3) := by decide +kernel
theorem dX10_fewestDoors_56 : decode cX10_fewestDoors 56 = .ok (.iconst 0, 1) := by decide +kernel
theorem dX10_fewestDoors_57 : decode cX10_fewestDoors 57 = .ok (.istore 5, 2) := by decide +kernel
theorem dX10_fewestDoors_59 : decode cX10_fewestDoors 59 = .ok (.iload 4, 2) := by decide +kernel
theorem dX10_fewestDoors_61 : decode cX10_fewestDoors 61 = .ok (.ifCond .eq 19, 3) := by decide +kernel
theorem dX10_fewestDoors_64 : decode cX10_fewestDoors 64 = .ok (.iload 5, 2) := by decide +kernel
theorem dX10_fewestDoors_66 : decode cX10_fewestDoors 66 = .ok (.ifCond .eq 14, 3) := by decide +kernel
theorem dX10_fewestDoors_69 : decode cX10_fewestDoors 69 = .ok (.aload_n 0, 1) := by decide +kernel
theorem dX10_fewestDoors_70 : decode cX10_fewestDoors 70 = .ok (.iload_n 3, 1) := by decide +kernel
theorem dX10_fewestDoors_71 : decode cX10_fewestDoors 71 = .ok (.iload_n 1, 1) := by decide +kernel
theorem dX10_fewestDoors_72 : decode cX10_fewestDoors 72 = .ok (.invokevirtual 313, 3) := by decide +kernel
theorem dX10_fewestDoors_75 : decode cX10_fewestDoors 75 = .ok (.ifCond .eq 5, 3) := by decide +kernel
theorem dX10_fewestDoors_78 : decode cX10_fewestDoors 78 = .ok (.iload_n 3, 1) := by decide +kernel
theorem dX10_fewestDoors_79 : decode cX10_fewestDoors 79 = .ok (.istore_n 2, 1) := by decide +kernel
theorem dX10_fewestDoors_80 : decode cX10_fewestDoors 80 = .ok (.iinc 3 1, 3) := by decide +kernel
theorem dX10_fewestDoors_83 : decode cX10_fewestDoors 83 = .ok (.goto (-79), 3) := by decide +kernel
theorem dX10_fewestDoors_86 : decode cX10_fewestDoors 86 = .ok (.iload_n 2, 1) := by decide +kernel
theorem dX10_fewestDoors_87 : decode cX10_fewestDoors 87 = .ok (.ireturn, 1) := by decide +kernel
set_option maxRecDepth 20000 in
theorem ggX10_letsBreathe_X0_blow : GoodIn wsX10_letsBreathe wsX0_blow := goodIn_r _ [11, 12, 13, 14, 15, 16, 10, 17, 18, 19, 20, 21, 22, 23, 24, 25, 26, 27, 28, 29, 30, 31, 32, 33, 34, 35, 36, 37, 38, 39, 40, 41, 42, 43, 44, 45, 46, 47, 48, 49, 50, 51, 52, 53, 54, 55, 56, 57, 58, 59, 60, 61, 62, 63, 64, 65, 87, 88, 89, 90, 91, 92, 93, 94, 95, 96, 97, 98] (by decide +kernel) (by decide +kernel)
set_option maxRecDepth 20000 in
theorem gX10_letsBreathe_X0_blow : GoodIn wsX10_letsBreathe (wsV RX10 305 RX0 yX0_blow wsX0_blow) := goodIn_app (goodIn_of _ (by decide +kernel)) ggX10_letsBreathe_X0_blow
theorem dX10_letsBreathe_0 : decode cX10_letsBreathe 0 = .ok (.aload_n 0, 1) := by decide +kernel
theorem dX10_letsBreathe_1 : decode cX10_letsBreathe 1 = .ok (.getfield 30, 3) := by decide +kernel
theorem dX10_letsBreathe_4 : decode cX10_letsBreathe 4 = .ok (.aload_n 0, 1) := by decide +kernel
theorem dX10_letsBreathe_5 : decode cX10_letsBreathe 5 = .ok (.getfield 19, 3) := by decide +kernel
theorem dX10_letsBreathe_8 : decode cX10_letsBreathe 8 = .ok (.aload_n 0, 1) := by decide +kernel
theorem dX10_letsBreathe_9 : decode cX10_letsBreathe 9 = .ok (.getfield 50, 3) := by decide +kernel
theorem dX10_letsBreathe_12 : decode cX10_letsBreathe 12 = .ok (.getfield 146, 3) := by decide +kernel
theorem dX10_letsBreathe_15 : decode cX10_letsBreathe 15 = .ok (.iload_n 1, 1) := by decide +kernel
theorem dX10_letsBreathe_16 : decode cX10_letsBreathe 16 = .ok (.ixor, 1) := by decide +kernel
theorem dX10_letsBreathe_17 : decode cX10_letsBreathe 17 = .ok (.aload_n 0, 1) := by decide +kernel
theorem dX10_letsBreathe_18 : decode cX10_letsBreathe 18 = .ok (.getfield 50, 3) := by decide +kernel
theorem dX10_letsBreathe_21 : decode cX10_letsBreathe 21 = .ok (.getfield 170, 3) := by decide +kernel
theorem dX10_letsBreathe_24 : decode cX10_letsBreathe 24 = .ok (.invokevirtual 305, 3) := by decide +kernel
theorem dX10_letsBreathe_27 : decode cX10_letsBreathe 27 = .ok (.iload_n 2, 1) := by decide +kernel
theorem dX10_letsBreathe_28 : decode cX10_letsBreathe 28 = .ok (.aload_n 0, 1) := by decide +kernel
theorem dX10_letsBreathe_29 : decode cX10_letsBreathe 29 = .ok (.getfield 30, 3) := by decide +kernel
theorem dX10_letsBreathe_32 : decode cX10_letsBreathe 32 = .ok (.getfield 164, 3) := by decide +kernel
theorem dX10_letsBreathe_35 : decode cX10_letsBreathe 35 = .ok (.iconst (-1), 1) := by decide +kernel
theorem dX10_letsBreathe_36 : decode cX10_letsBreathe 36 = .ok (.ixor, 1) := by decide +kernel
theorem dX10_letsBreathe_37 : decode cX10_letsBreathe 37 = .ok (.iand, 1) := by decide +kernel
theorem dX10_letsBreathe_38 : decode cX10_letsBreathe 38 = .ok (.ifCond .ne 7, 3) := by decide +kernel
theorem dX10_letsBreathe_41 : decode cX10_letsBreathe 41 = .ok (.iconst 1, 1) := by decide +kernel
theorem dX10_letsBreathe_42 : decode cX10_letsBreathe 42 = .ok (.goto 4, 3) := by decide +kernel
theorem dX10_letsBreathe_45 : decode cX10_letsBreathe 45 = .ok (.iconst 0, 1) := by decide +kernel
theorem dX10_letsBreathe_46 : decode cX10_letsBreathe 46 = .ok (.ireturn, 1) := by decide +kernel
set_option maxRecDepth 20000 in
theorem ggX10_isNoseTale_X1_noses : GoodIn wsX10_isNoseTale wsX1_noses := goodIn_r _ [6, 7, 8, 9, 10, 5, 11, 12, 13, 14, 15, 16, 17, 18, 34, 35, 36] (by decide +kernel) (by decide +kernel)
set_option maxRecDepth 20000 in
theorem gX10_isNoseTale_X1_noses : GoodIn wsX10_isNoseTale (wsV RX10 316 RX1 yX1_noses wsX1_noses) := goodIn_app (goodIn_of _ (by decide +kernel)) ggX10_isNoseTale_X1_noses
theorem dX10_isNoseTale_0 : decode cX10_isNoseTale 0 = .ok (.iload_n 1, 1) := by decide +kernel
theorem dX10_isNoseTale_1 : decode cX10_isNoseTale 1 = .ok (.ifCond .lt 27, 3) := by decide +kernel
theorem dX10_isNoseTale_4 : decode cX10_isNoseTale 4 = .ok (.iload_n 1, 1) := by decide +kernel
theorem dX10_isNoseTale_5 : decode cX10_isNoseTale 5 = .ok (.bipush 60, 2) := by decide +kernel
theorem dX10_isNoseTale_7 : decode cX10_isNoseTale 7 = .ok (.if_icmp .gt 21, 3) := by decide +kernel
theorem dX10_isNoseTale_10 : decode cX10_isNoseTale 10 = .ok (.iload_n 2, 1) := by decide +kernel
theorem dX10_isNoseTale_11 : decode cX10_isNoseTale 11 = .ok (.aload_n 0, 1) := by decide +kernel
theorem dX10_isNoseTale_12 : decode cX10_isNoseTale 12 = .ok (.getfield 43, 3) := by decide +kernel
theorem dX10_isNoseTale_15 : decode cX10_isNoseTale 15 = .ok (.invokevirtual 316, 3) := by decide +kernel
theorem dX10_isNoseTale_18 : decode cX10_isNoseTale 18 = .ok (.iconst (-1), 1) := by decide +kernel
theorem dX10_isNoseTale_19 : decode cX10_isNoseTale 19 = .ok (.ixor, 1) := by decide +kernel
theorem dX10_isNoseTale_20 : decode cX10_isNoseTale 20 = .ok (.iand, 1) := by decide +kernel
theorem dX10_isNoseTale_21 : decode cX10_isNoseTale 21 = .ok (.ifCond .ne 7, 3) := by decide +kernel
theorem dX10_isNoseTale_24 : decode cX10_isNoseTale 24 = .ok (.iconst 1, 1) := by decide +kernel
theorem dX10_isNoseTale_25 : decode cX10_isNoseTale 25 = .ok (.goto 4, 3) := by decide +kernel
theorem dX10_isNoseTale_28 : decode cX10_isNoseTale 28 = .ok (.iconst 0, 1) := by decide +kernel
theorem dX10_isNoseTale_29 : decode cX10_isNoseTale 29 = .ok (.ireturn, 1) := by decide +kernel
set_option maxRecDepth 20000 in
theorem ggX10_possibleFires_X1_isOf : GoodIn wsX10_possibleFires wsX1_isOf := goodIn_r _ [9, 10, 11, 12, 13, 14, 15, 16, 49, 50, 57] (by decide +kernel) (by decide +kernel)
set_option maxRecDepth 20000 in
theorem gX10_possibleFires_X1_isOf : GoodIn wsX10_possibleFires (wsV RX10 196 RX1 yX1_isOf wsX1_isOf) := goodIn_app (goodIn_of _ (by decide +kernel)) ggX10_possibleFires_X1_isOf
set_option maxRecDepth 20000 in
theorem ggX10_possibleFires_X8_get : GoodIn wsX10_possibleFires wsX8_get := goodIn_r _ [15, 16, 57] (by decide +kernel) (by decide +kernel)
set_option maxRecDepth 20000 in
theorem gX10_possibleFires_X8_get : GoodIn wsX10_possibleFires (wsV RX10 128 RX8 yX8_get wsX8_get) := goodIn_app (goodIn_of _ (by decide +kernel)) ggX10_possibleFires_X8_get
set_option maxRecDepth 20000 in
theorem ggX10_possibleFires_X10_firesSmelt : GoodIn wsX10_possibleFires wsX10_firesSmelt := goodIn_r _ [22, 23, 24, 25, 26, 27, 28, 29, 30, 12, 13, 14, 15, 16, 34, 35, 36, 37, 38, 39, 40, 41, 42, 43, 44, 45, 46, 47, 48, 58, 57] (by decide +kernel) (by decide +kernel)
set_option maxRecDepth 20000 in
theorem gX10_possibleFires_X10_firesSmelt : GoodIn wsX10_possibleFires (wsV RX10 240 RX10 yX10_firesSmelt wsX10_firesSmelt) := goodIn_app (goodIn_of _ (by decide +kernel)) ggX10_possibleFires_X10_firesSmelt
set_option maxRecDepth 20000 in
theorem ggX10_possibleFires_X10_bit : GoodIn wsX10_possibleFires wsX10_bit := goodIn_r _ [33] (by decide +kernel) (by decide +kernel)
set_option maxRecDepth 20000 in
theorem gX10_possibleFires_X10_bit : GoodIn wsX10_possibleFires (va_wsS RX10 142 yX10_bit wsX10_bit) := goodIn_app (goodIn_of _ (by decide +kernel)) ggX10_possibleFires_X10_bit
theorem dX10_possibleFires_0 : decode cX10_possibleFires 0 = .ok (.bipush 127, 2) := by decide +kernel
theorem dX10_possibleFires_2 : decode cX10_possibleFires 2 = .ok (.istore_n 3, 1) := by decide +kernel
theorem dX10_possibleFires_3 : decode cX10_possibleFires 3 = .ok (.iconst 0, 1) := by decide +kernel
theorem dX10_possibleFires_4 : decode cX10_possibleFires 4 = .ok (.istore 4, 2) := by decide +kernel
theorem dX10_possibleFires_6 : decode cX10_possibleFires 6 = .ok (.iload 4, 2) := by decide +kernel
theorem dX10_possibleFires_8 : decode cX10_possibleFires 8 = .ok (.aload_n 0, 1) := by decide +kernel
theorem dX10_possibleFires_9 : decode cX10_possibleFires 9 = .ok (.getfield 43, 3) := by decide +kernel
theorem dX10_possibleFires_12 : decode cX10_possibleFires 12 = .ok (.getfield 101, 3) := by decide +kernel
theorem dX10_possibleFires_15 : decode cX10_possibleFires 15 = .ok (.if_icmp .ge 63, 3) := by decide +kernel
theorem dX10_possibleFires_18 : decode cX10_possibleFires 18 = .ok (.aload_n 0, 1) := by decide +kernel
theorem dX10_possibleFires_19 : decode cX10_possibleFires 19 = .ok (.getfield 43, 3) := by decide +kernel
theorem dX10_possibleFires_22 : decode cX10_possibleFires 22 = .ok (.iload 4, 2) := by decide +kernel
theorem dX10_possibleFires_24 : decode cX10_possibleFires 24 = .ok (.iconst 1, 1) := by decide +kernel
theorem dX10_possibleFires_25 : decode cX10_possibleFires 25 = .ok (.invokevirtual 196, 3) := by decide +kernel
theorem dX10_possibleFires_28 : decode cX10_possibleFires 28 = .ok (.ifCond .eq 44, 3) := by decide +kernel
theorem dX10_possibleFires_31 : decode cX10_possibleFires 31 = .ok (.aload_n 0, 1) := by decide +kernel
theorem dX10_possibleFires_32 : decode cX10_possibleFires 32 = .ok (.aload_n 0, 1) := by decide +kernel
theorem dX10_possibleFires_33 : decode cX10_possibleFires 33 = .ok (.getfield 50, 3) := by decide +kernel
theorem dX10_possibleFires_36 : decode cX10_possibleFires 36 = .ok (.getfield 184, 3) := by decide +kernel
theorem dX10_possibleFires_39 : decode cX10_possibleFires 39 = .ok (.iload 4, 2) := by decide +kernel
theorem dX10_possibleFires_41 : decode cX10_possibleFires 41 = .ok (.invokevirtual 128, 3) := by decide +kernel
theorem dX10_possibleFires_44 : decode cX10_possibleFires 44 = .ok (.iload_n 1, 1) := by decide +kernel
theorem dX10_possibleFires_45 : decode cX10_possibleFires 45 = .ok (.invokevirtual 240, 3) := by decide +kernel
theorem dX10_possibleFires_48 : decode cX10_possibleFires 48 = .ok (.istore 5, 2) := by decide +kernel
theorem dX10_possibleFires_50 : decode cX10_possibleFires 50 = .ok (.iload_n 3, 1) := by decide +kernel
theorem dX10_possibleFires_51 : decode cX10_possibleFires 51 = .ok (.iload_n 2, 1) := by decide +kernel
theorem dX10_possibleFires_52 : decode cX10_possibleFires 52 = .ok (.iload 4, 2) := by decide +kernel
theorem dX10_possibleFires_54 : decode cX10_possibleFires 54 = .ok (.invokestatic 142, 3) := by decide +kernel
theorem dX10_possibleFires_57 : decode cX10_possibleFires 57 = .ok (.iconst 1, 1) := by decide +kernel
theorem dX10_possibleFires_58 : decode cX10_possibleFires 58 = .ok (.if_icmp .ne 8, 3) := by decide +kernel
theorem dX10_possibleFires_61 : decode cX10_possibleFires 61 = .ok (.iload 5, 2) := by decide +kernel
theorem dX10_possibleFires_63 : decode cX10_possibleFires 63 = .ok (.goto 7, 3) := by decide +kernel
theorem dX10_possibleFires_66 : decode cX10_possibleFires 66 = .ok (.iload 5, 2) := by decide +kernel
theorem dX10_possibleFires_68 : decode cX10_possibleFires 68 = .ok (.iconst (-1), 1) := by decide +kernel
theorem dX10_possibleFires_69 : decode cX10_possibleFires 69 = .ok (.ixor, 1) := by decide +kernel
theorem dX10_possibleFires_70 : decode cX10_possibleFires 70 = .ok (.iand, 1) := by decide +kernel
theorem dX10_possibleFires_71 : decode cX10_possibleFires 71 = .ok (.istore_n 3, 1) := by decide +kernel
theorem dX10_possibleFires_72 : decode cX10_possibleFires 72 = .ok (.iinc 4 1, 3) := by decide +kernel
theorem dX10_possibleFires_75 : decode cX10_possibleFires 75 = .ok (.goto (-69), 3) := by decide +kernel
theorem dX10_possibleFires_78 : decode cX10_possibleFires 78 = .ok (.iload_n 3, 1) := by decide +kernel
theorem dX10_possibleFires_79 : decode cX10_possibleFires 79 = .ok (.ireturn, 1) := by decide +kernel
set_option maxRecDepth 20000 in
theorem ggX10_firesSmelt_X9_between : GoodIn wsX10_firesSmelt wsX9_between := goodIn_r _ [6, 7, 8, 9, 10, 11, 12, 13, 29, 30] (by decide +kernel) (by decide +kernel)
set_option maxRecDepth 20000 in
theorem gX10_firesSmelt_X9_between : GoodIn wsX10_firesSmelt (wsV RX10 215 RX9 yX9_between wsX9_between) := goodIn_app (goodIn_of _ (by decide +kernel)) ggX10_firesSmelt_X9_between
theorem dX10_firesSmelt_0 : decode cX10_firesSmelt 0 = .ok (.iconst 0, 1) := by decide +kernel
theorem dX10_firesSmelt_1 : decode cX10_firesSmelt 1 = .ok (.istore_n 3, 1) := by decide +kernel
theorem dX10_firesSmelt_2 : decode cX10_firesSmelt 2 = .ok (.iconst 0, 1) := by decide +kernel
theorem dX10_firesSmelt_3 : decode cX10_firesSmelt 3 = .ok (.istore 4, 2) := by decide +kernel
theorem dX10_firesSmelt_5 : decode cX10_firesSmelt 5 = .ok (.iload 4, 2) := by decide +kernel
theorem dX10_firesSmelt_7 : decode cX10_firesSmelt 7 = .ok (.bipush 7, 2) := by decide +kernel
theorem dX10_firesSmelt_9 : decode cX10_firesSmelt 9 = .ok (.if_icmp .ge 40, 3) := by decide +kernel
theorem dX10_firesSmelt_12 : decode cX10_firesSmelt 12 = .ok (.aload_n 0, 1) := by decide +kernel
theorem dX10_firesSmelt_13 : decode cX10_firesSmelt 13 = .ok (.getfield 36, 3) := by decide +kernel
theorem dX10_firesSmelt_16 : decode cX10_firesSmelt 16 = .ok (.iload 4, 2) := by decide +kernel
theorem dX10_firesSmelt_18 : decode cX10_firesSmelt 18 = .ok (.iload_n 1, 1) := by decide +kernel
theorem dX10_firesSmelt_19 : decode cX10_firesSmelt 19 = .ok (.invokevirtual 215, 3) := by decide +kernel
theorem dX10_firesSmelt_22 : decode cX10_firesSmelt 22 = .ok (.istore 5, 2) := by decide +kernel
theorem dX10_firesSmelt_24 : decode cX10_firesSmelt 24 = .ok (.iload 5, 2) := by decide +kernel
theorem dX10_firesSmelt_26 : decode cX10_firesSmelt 26 = .ok (.iconst (-1), 1) := by decide +kernel
theorem dX10_firesSmelt_27 : decode cX10_firesSmelt 27 = .ok (.if_icmp .eq 16, 3) := by decide +kernel
theorem dX10_firesSmelt_30 : decode cX10_firesSmelt 30 = .ok (.iload 5, 2) := by decide +kernel
theorem dX10_firesSmelt_32 : decode cX10_firesSmelt 32 = .ok (.iload_n 2, 1) := by decide +kernel
theorem dX10_firesSmelt_33 : decode cX10_firesSmelt 33 = .ok (.if_icmp .gt 10, 3) := by decide +kernel
theorem dX10_firesSmelt_36 : decode cX10_firesSmelt 36 = .ok (.iload_n 3, 1) := by decide +kernel
theorem dX10_firesSmelt_37 : decode cX10_firesSmelt 37 = .ok (.iconst 1, 1) := by decide +kernel
theorem dX10_firesSmelt_38 : decode cX10_firesSmelt 38 = .ok (.iload 4, 2) := by decide +kernel
theorem dX10_firesSmelt_40 : decode cX10_firesSmelt 40 = .ok (.ishl, 1) := by decide +kernel
theorem dX10_firesSmelt_41 : decode cX10_firesSmelt 41 = .ok (.ior, 1) := by decide +kernel
theorem dX10_firesSmelt_42 : decode cX10_firesSmelt 42 = .ok (.istore_n 3, 1) := by decide +kernel
theorem dX10_firesSmelt_43 : decode cX10_firesSmelt 43 = .ok (.iinc 4 1, 3) := by decide +kernel
theorem dX10_firesSmelt_46 : decode cX10_firesSmelt 46 = .ok (.goto (-41), 3) := by decide +kernel
theorem dX10_firesSmelt_49 : decode cX10_firesSmelt 49 = .ok (.iload_n 3, 1) := by decide +kernel
theorem dX10_firesSmelt_50 : decode cX10_firesSmelt 50 = .ok (.ireturn, 1) := by decide +kernel
set_option maxRecDepth 20000 in
theorem ggX10_dreamWalk_X2_draw : GoodIn wsX10_dreamWalk wsX2_draw := goodIn_r _ [13, 14, 15, 16, 17, 18, 87] (by decide +kernel) (by decide +kernel)
set_option maxRecDepth 20000 in
theorem gX10_dreamWalk_X2_draw : GoodIn wsX10_dreamWalk (wsV RX10 319 RX2 yX2_draw wsX2_draw) := goodIn_app (goodIn_of _ (by decide +kernel)) ggX10_dreamWalk_X2_draw
set_option maxRecDepth 20000 in
theorem ggX10_dreamWalk_X10_bit : GoodIn wsX10_dreamWalk wsX10_bit := goodIn_r _ [22] (by decide +kernel) (by decide +kernel)
set_option maxRecDepth 20000 in
theorem gX10_dreamWalk_X10_bit : GoodIn wsX10_dreamWalk (va_wsS RX10 142 yX10_bit wsX10_bit) := goodIn_app (goodIn_of _ (by decide +kernel)) ggX10_dreamWalk_X10_bit
set_option maxRecDepth 20000 in
theorem ggX10_dreamWalk_X8_get : GoodIn wsX10_dreamWalk wsX8_get := goodIn_r _ [27, 28, 88] (by decide +kernel) (by decide +kernel)
set_option maxRecDepth 20000 in
theorem gX10_dreamWalk_X8_get : GoodIn wsX10_dreamWalk (wsV RX10 128 RX8 yX8_get wsX8_get) := goodIn_app (goodIn_of _ (by decide +kernel)) ggX10_dreamWalk_X8_get
set_option maxRecDepth 20000 in
theorem ggX10_dreamWalk_X5_galleriesAt : GoodIn wsX10_dreamWalk wsX5_galleriesAt := goodIn_r _ [33, 34, 35, 36, 37, 32, 38, 39, 40, 41, 24, 25, 26, 27, 28, 89, 90, 91, 92, 93, 94, 95, 88] (by decide +kernel) (by decide +kernel)
set_option maxRecDepth 20000 in
theorem gX10_dreamWalk_X5_galleriesAt : GoodIn wsX10_dreamWalk (wsV RX10 322 RX5 yX5_galleriesAt wsX5_galleriesAt) := goodIn_app (goodIn_of _ (by decide +kernel)) ggX10_dreamWalk_X5_galleriesAt
set_option maxRecDepth 20000 in
theorem ggX10_dreamWalk_J6_bitCount_0f7a4 : GoodIn wsX10_dreamWalk wsJ6_bitCount_0f7a4 := goodIn_r _ [45, 46, 47, 48] (by decide +kernel) (by decide +kernel)
set_option maxRecDepth 20000 in
theorem gX10_dreamWalk_J6_bitCount_0f7a4 : GoodIn wsX10_dreamWalk (va_wsS RX10 206 yJ6_bitCount_0f7a4 wsJ6_bitCount_0f7a4) := goodIn_app (goodIn_of _ (by decide +kernel)) ggX10_dreamWalk_J6_bitCount_0f7a4
set_option maxRecDepth 20000 in
theorem ggX10_dreamWalk_X10_placeOfBit : GoodIn wsX10_dreamWalk wsX10_placeOfBit := goodIn_r _ [51, 52, 53, 44, 54, 55] (by decide +kernel) (by decide +kernel)
set_option maxRecDepth 20000 in
theorem gX10_dreamWalk_X10_placeOfBit : GoodIn wsX10_dreamWalk (va_wsS RX10 325 yX10_placeOfBit wsX10_placeOfBit) := goodIn_app (goodIn_of _ (by decide +kernel)) ggX10_dreamWalk_X10_placeOfBit
set_option maxRecDepth 20000 in
theorem ggX10_dreamWalk_X5_otherEnd : GoodIn wsX10_dreamWalk wsX5_otherEnd := goodIn_r _ [59, 39, 40, 41, 24, 25, 26, 27, 28, 89, 90, 91, 92, 93, 94, 95, 88] (by decide +kernel) (by decide +kernel)
set_option maxRecDepth 20000 in
theorem gX10_dreamWalk_X5_otherEnd : GoodIn wsX10_dreamWalk (wsV RX10 203 RX5 yX5_otherEnd wsX5_otherEnd) := goodIn_app (goodIn_of _ (by decide +kernel)) ggX10_dreamWalk_X5_otherEnd
set_option maxRecDepth 20000 in
theorem ggX10_dreamWalk_X8_set : GoodIn wsX10_dreamWalk wsX8_set := goodIn_r _ [63, 28, 88] (by decide +kernel) (by decide +kernel)
set_option maxRecDepth 20000 in
theorem gX10_dreamWalk_X8_set : GoodIn wsX10_dreamWalk (wsV RX10 180 RX8 yX8_set wsX8_set) := goodIn_app (goodIn_of _ (by decide +kernel)) ggX10_dreamWalk_X8_set
theorem dX10_dreamWalk_0 : decode cX10_dreamWalk 0 = .ok (.aload_n 0, 1) := by decide +kernel
theorem dX10_dreamWalk_1 : decode cX10_dreamWalk 1 = .ok (.getfield 43, 3) := by decide +kernel
theorem dX10_dreamWalk_4 : decode cX10_dreamWalk 4 = .ok (.getfield 101, 3) := by decide +kernel
theorem dX10_dreamWalk_7 : decode cX10_dreamWalk 7 = .ok (.ifCond .ne 4, 3) := by decide +kernel
theorem dX10_dreamWalk_10 : decode cX10_dreamWalk 10 = .ok (.return_, 1) := by decide +kernel
theorem dX10_dreamWalk_11 : decode cX10_dreamWalk 11 = .ok (.aload_n 0, 1) := by decide +kernel
theorem dX10_dreamWalk_12 : decode cX10_dreamWalk 12 = .ok (.getfield 63, 3) := by decide +kernel
theorem dX10_dreamWalk_15 : decode cX10_dreamWalk 15 = .ok (.aload_n 0, 1) := by decide +kernel
theorem dX10_dreamWalk_16 : decode cX10_dreamWalk 16 = .ok (.getfield 43, 3) := by decide +kernel
theorem dX10_dreamWalk_19 : decode cX10_dreamWalk 19 = .ok (.getfield 101, 3) := by decide +kernel
theorem dX10_dreamWalk_22 : decode cX10_dreamWalk 22 = .ok (.invokevirtual 319, 3) := by decide +kernel
theorem dX10_dreamWalk_25 : decode cX10_dreamWalk 25 = .ok (.istore_n 1, 1) := by decide +kernel
theorem dX10_dreamWalk_26 : decode cX10_dreamWalk 26 = .ok (.aload_n 0, 1) := by decide +kernel
theorem dX10_dreamWalk_27 : decode cX10_dreamWalk 27 = .ok (.getfield 57, 3) := by decide +kernel
theorem dX10_dreamWalk_30 : decode cX10_dreamWalk 30 = .ok (.getfield 190, 3) := by decide +kernel
theorem dX10_dreamWalk_33 : decode cX10_dreamWalk 33 = .ok (.iload_n 1, 1) := by decide +kernel
theorem dX10_dreamWalk_34 : decode cX10_dreamWalk 34 = .ok (.invokestatic 142, 3) := by decide +kernel
theorem dX10_dreamWalk_37 : decode cX10_dreamWalk 37 = .ok (.iconst 1, 1) := by decide +kernel
theorem dX10_dreamWalk_38 : decode cX10_dreamWalk 38 = .ok (.if_icmp .ne 4, 3) := by decide +kernel
theorem dX10_dreamWalk_41 : decode cX10_dreamWalk 41 = .ok (.return_, 1) := by decide +kernel
theorem dX10_dreamWalk_42 : decode cX10_dreamWalk 42 = .ok (.aload_n 0, 1) := by decide +kernel
theorem dX10_dreamWalk_43 : decode cX10_dreamWalk 43 = .ok (.getfield 57, 3) := by decide +kernel
theorem dX10_dreamWalk_46 : decode cX10_dreamWalk 46 = .ok (.getfield 184, 3) := by decide +kernel
theorem dX10_dreamWalk_49 : decode cX10_dreamWalk 49 = .ok (.iload_n 1, 1) := by decide +kernel
theorem dX10_dreamWalk_50 : decode cX10_dreamWalk 50 = .ok (.invokevirtual 128, 3) := by decide +kernel
theorem dX10_dreamWalk_53 : decode cX10_dreamWalk 53 = .ok (.istore_n 2, 1) := by decide +kernel
theorem dX10_dreamWalk_54 : decode cX10_dreamWalk 54 = .ok (.aload_n 0, 1) := by decide +kernel
theorem dX10_dreamWalk_55 : decode cX10_dreamWalk 55 = .ok (.getfield 19, 3) := by decide +kernel
theorem dX10_dreamWalk_58 : decode cX10_dreamWalk 58 = .ok (.iload_n 2, 1) := by decide +kernel
theorem dX10_dreamWalk_59 : decode cX10_dreamWalk 59 = .ok (.aload_n 0, 1) := by decide +kernel
theorem dX10_dreamWalk_60 : decode cX10_dreamWalk 60 = .ok (.getfield 57, 3) := by decide +kernel
theorem dX10_dreamWalk_63 : decode cX10_dreamWalk 63 = .ok (.getfield 146, 3) := by decide +kernel
theorem dX10_dreamWalk_66 : decode cX10_dreamWalk 66 = .ok (.invokevirtual 322, 3) := by decide +kernel
theorem dX10_dreamWalk_69 : decode cX10_dreamWalk 69 = .ok (.istore_n 3, 1) := by decide +kernel
theorem dX10_dreamWalk_70 : decode cX10_dreamWalk 70 = .ok (.iload_n 3, 1) := by decide +kernel
theorem dX10_dreamWalk_71 : decode cX10_dreamWalk 71 = .ok (.ifCond .ne 4, 3) := by decide +kernel
theorem dX10_dreamWalk_74 : decode cX10_dreamWalk 74 = .ok (.return_, 1) := by decide +kernel
theorem dX10_dreamWalk_75 : decode cX10_dreamWalk 75 = .ok (.iload_n 3, 1) := by decide +kernel
theorem dX10_dreamWalk_76 : decode cX10_dreamWalk 76 = .ok (.aload_n 0, 1) := by decide +kernel
theorem dX10_dreamWalk_77 : decode cX10_dreamWalk 77 = .ok (.getfield 63, 3) := by decide +kernel
theorem dX10_dreamWalk_80 : decode cX10_dreamWalk 80 = .ok (.iload_n 3, 1) := by decide +kernel
theorem dX10_dreamWalk_81 : decode cX10_dreamWalk 81 = .ok (.invokestatic 206, 3) := by decide +kernel
theorem dX10_dreamWalk_84 : decode cX10_dreamWalk 84 = .ok (.invokevirtual 319, 3) := by decide +kernel
theorem dX10_dreamWalk_87 : decode cX10_dreamWalk 87 = .ok (.invokestatic 325, 3) := by decide +kernel
theorem dX10_dreamWalk_90 : decode cX10_dreamWalk 90 = .ok (.istore 4, 2) := by decide +kernel
theorem dX10_dreamWalk_92 : decode cX10_dreamWalk 92 = .ok (.aload_n 0, 1) := by decide +kernel
theorem dX10_dreamWalk_93 : decode cX10_dreamWalk 93 = .ok (.getfield 57, 3) := by decide +kernel
theorem dX10_dreamWalk_96 : decode cX10_dreamWalk 96 = .ok (.getfield 184, 3) := by decide +kernel
theorem dX10_dreamWalk_99 : decode cX10_dreamWalk 99 = .ok (.iload_n 1, 1) := by decide +kernel
theorem dX10_dreamWalk_100 : decode cX10_dreamWalk 100 = .ok (.aload_n 0, 1) := by decide +kernel
theorem dX10_dreamWalk_101 : decode cX10_dreamWalk 101 = .ok (.getfield 19, 3) := by decide +kernel
theorem dX10_dreamWalk_104 : decode cX10_dreamWalk 104 = .ok (.iload 4, 2) := by decide +kernel
theorem dX10_dreamWalk_106 : decode cX10_dreamWalk 106 = .ok (.iload_n 2, 1) := by decide +kernel
theorem dX10_dreamWalk_107 : decode cX10_dreamWalk 107 = .ok (.invokevirtual 203, 3) := by decide +kernel
theorem dX10_dreamWalk_110 : decode cX10_dreamWalk 110 = .ok (.invokevirtual 180, 3) := by decide +kernel
theorem dX10_dreamWalk_113 : decode cX10_dreamWalk 113 = .ok (.return_, 1) := by decide +kernel
set_option maxRecDepth 20000 in
theorem ggX10_placeOfBit_J6_numberOfTrailingZeros_0f7a4 : GoodIn wsX10_placeOfBit wsJ6_numberOfTrailingZeros_0f7a4 := goodIn_r _ [4, 5] (by decide +kernel) (by decide +kernel)
set_option maxRecDepth 20000 in
theorem gX10_placeOfBit_J6_numberOfTrailingZeros_0f7a4 : GoodIn wsX10_placeOfBit (va_wsS RX10 328 yJ6_numberOfTrailingZeros_0f7a4 wsJ6_numberOfTrailingZeros_0f7a4) := goodIn_app (goodIn_of _ (by decide +kernel)) ggX10_placeOfBit_J6_numberOfTrailingZeros_0f7a4
theorem dX10_placeOfBit_0 : decode cX10_placeOfBit 0 = .ok (.iload_n 0, 1) := by decide +kernel
theorem dX10_placeOfBit_1 : decode cX10_placeOfBit 1 = .ok (.istore_n 2, 1) := by decide +kernel
theorem dX10_placeOfBit_2 : decode cX10_placeOfBit 2 = .ok (.iconst 0, 1) := by decide +kernel
theorem dX10_placeOfBit_3 : decode cX10_placeOfBit 3 = .ok (.istore_n 3, 1) := by decide +kernel
theorem dX10_placeOfBit_4 : decode cX10_placeOfBit 4 = .ok (.iload_n 3, 1) := by decide +kernel
theorem dX10_placeOfBit_5 : decode cX10_placeOfBit 5 = .ok (.iload_n 1, 1) := by decide +kernel
theorem dX10_placeOfBit_6 : decode cX10_placeOfBit 6 = .ok (.if_icmp .ge 15, 3) := by decide +kernel
theorem dX10_placeOfBit_9 : decode cX10_placeOfBit 9 = .ok (.iload_n 2, 1) := by decide +kernel
theorem dX10_placeOfBit_10 : decode cX10_placeOfBit 10 = .ok (.iload_n 2, 1) := by decide +kernel
theorem dX10_placeOfBit_11 : decode cX10_placeOfBit 11 = .ok (.iconst 1, 1) := by decide +kernel
theorem dX10_placeOfBit_12 : decode cX10_placeOfBit 12 = .ok (.isub, 1) := by decide +kernel
theorem dX10_placeOfBit_13 : decode cX10_placeOfBit 13 = .ok (.iand, 1) := by decide +kernel
theorem dX10_placeOfBit_14 : decode cX10_placeOfBit 14 = .ok (.istore_n 2, 1) := by decide +kernel
theorem dX10_placeOfBit_15 : decode cX10_placeOfBit 15 = .ok (.iinc 3 1, 3) := by decide +kernel
theorem dX10_placeOfBit_18 : decode cX10_placeOfBit 18 = .ok (.goto (-14), 3) := by decide +kernel
theorem dX10_placeOfBit_21 : decode cX10_placeOfBit 21 = .ok (.iload_n 2, 1) := by decide +kernel
theorem dX10_placeOfBit_22 : decode cX10_placeOfBit 22 = .ok (.invokestatic 328, 3) := by decide +kernel
theorem dX10_placeOfBit_25 : decode cX10_placeOfBit 25 = .ok (.ireturn, 1) := by decide +kernel
theorem dX11_init_0 : decode cX11_init 0 = .ok (.aload_n 0, 1) := by decide +kernel
theorem dX11_init_1 : decode cX11_init 1 = .ok (.invokespecial 1, 3) := by decide +kernel
theorem dX11_init_4 : decode cX11_init 4 = .ok (.aload_n 0, 1) := by decide +kernel
theorem dX11_init_5 : decode cX11_init 5 = .ok (.bipush 66, 2) := by decide +kernel
theorem dX11_init_7 : decode cX11_init 7 = .ok (.newarray .int, 2) := by decide +kernel
theorem dX11_init_9 : decode cX11_init 9 = .ok (.putfield 7, 3) := by decide +kernel
theorem dX11_init_12 : decode cX11_init 12 = .ok (.aload_n 0, 1) := by decide +kernel
theorem dX11_init_13 : decode cX11_init 13 = .ok (.bipush 40, 2) := by decide +kernel
theorem dX11_init_15 : decode cX11_init 15 = .ok (.newarray .int, 2) := by decide +kernel
theorem dX11_init_17 : decode cX11_init 17 = .ok (.putfield 13, 3) := by decide +kernel
theorem dX11_init_20 : decode cX11_init 20 = .ok (.aload_n 0, 1) := by decide +kernel
theorem dX11_init_21 : decode cX11_init 21 = .ok (.bipush 7, 2) := by decide +kernel
theorem dX11_init_23 : decode cX11_init 23 = .ok (.newarray .int, 2) := by decide +kernel
theorem dX11_init_25 : decode cX11_init 25 = .ok (.putfield 16, 3) := by decide +kernel
theorem dX11_init_28 : decode cX11_init 28 = .ok (.aload_n 0, 1) := by decide +kernel
theorem dX11_init_29 : decode cX11_init 29 = .ok (.bipush 40, 2) := by decide +kernel
theorem dX11_init_31 : decode cX11_init 31 = .ok (.newarray .int, 2) := by decide +kernel
theorem dX11_init_33 : decode cX11_init 33 = .ok (.putfield 19, 3) := by decide +kernel
theorem dX11_init_36 : decode cX11_init 36 = .ok (.aload_n 0, 1) := by decide +kernel
theorem dX11_init_37 : decode cX11_init 37 = .ok (.bipush 7, 2) := by decide +kernel
theorem dX11_init_39 : decode cX11_init 39 = .ok (.newarray .int, 2) := by decide +kernel
theorem dX11_init_41 : decode cX11_init 41 = .ok (.putfield 22, 3) := by decide +kernel
theorem dX11_init_44 : decode cX11_init 44 = .ok (.aload_n 0, 1) := by decide +kernel
theorem dX11_init_45 : decode cX11_init 45 = .ok (.bipush 7, 2) := by decide +kernel
theorem dX11_init_47 : decode cX11_init 47 = .ok (.newarray .int, 2) := by decide +kernel
theorem dX11_init_49 : decode cX11_init 49 = .ok (.putfield 25, 3) := by decide +kernel
theorem dX11_init_52 : decode cX11_init 52 = .ok (.aload_n 0, 1) := by decide +kernel
theorem dX11_init_53 : decode cX11_init 53 = .ok (.bipush 7, 2) := by decide +kernel
theorem dX11_init_55 : decode cX11_init 55 = .ok (.newarray .int, 2) := by decide +kernel
theorem dX11_init_57 : decode cX11_init 57 = .ok (.putfield 28, 3) := by decide +kernel
theorem dX11_init_60 : decode cX11_init 60 = .ok (.aload_n 0, 1) := by decide +kernel
theorem dX11_init_61 : decode cX11_init 61 = .ok (.bipush 7, 2) := by decide +kernel
theorem dX11_init_63 : decode cX11_init 63 = .ok (.newarray .int, 2) := by decide +kernel
theorem dX11_init_65 : decode cX11_init 65 = .ok (.putfield 31, 3) := by decide +kernel
theorem dX11_init_68 : decode cX11_init 68 = .ok (.aload_n 0, 1) := by decide +kernel
theorem dX11_init_69 : decode cX11_init 69 = .ok (.bipush 18, 2) := by decide +kernel
theorem dX11_init_71 : decode cX11_init 71 = .ok (.newarray .int, 2) := by decide +kernel
theorem dX11_init_73 : decode cX11_init 73 = .ok (.putfield 34, 3) := by decide +kernel
theorem dX11_init_76 : decode cX11_init 76 = .ok (.aload_n 0, 1) := by decide +kernel
theorem dX11_init_77 : decode cX11_init 77 = .ok (.bipush 7, 2) := by decide +kernel
theorem dX11_init_79 : decode cX11_init 79 = .ok (.newarray .int, 2) := by decide +kernel
theorem dX11_init_81 : decode cX11_init 81 = .ok (.putfield 37, 3) := by decide +kernel
theorem dX11_init_84 : decode cX11_init 84 = .ok (.aload_n 0, 1) := by decide +kernel
theorem dX11_init_85 : decode cX11_init 85 = .ok (.bipush 49, 2) := by decide +kernel
theorem dX11_init_87 : decode cX11_init 87 = .ok (.newarray .int, 2) := by decide +kernel
theorem dX11_init_89 : decode cX11_init 89 = .ok (.putfield 40, 3) := by decide +kernel
theorem dX11_init_92 : decode cX11_init 92 = .ok (.aload_n 0, 1) := by decide +kernel
theorem dX11_init_93 : decode cX11_init 93 = .ok (.iconst 5, 1) := by decide +kernel
theorem dX11_init_94 : decode cX11_init 94 = .ok (.newarray .int, 2) := by decide +kernel
theorem dX11_init_96 : decode cX11_init 96 = .ok (.putfield 43, 3) := by decide +kernel
theorem dX11_init_99 : decode cX11_init 99 = .ok (.aload_n 0, 1) := by decide +kernel
theorem dX11_init_100 : decode cX11_init 100 = .ok (.iconst 5, 1) := by decide +kernel
theorem dX11_init_101 : decode cX11_init 101 = .ok (.newarray .int, 2) := by decide +kernel
theorem dX11_init_103 : decode cX11_init 103 = .ok (.putfield 46, 3) := by decide +kernel
theorem dX11_init_106 : decode cX11_init 106 = .ok (.aload_n 0, 1) := by decide +kernel
theorem dX11_init_107 : decode cX11_init 107 = .ok (.bipush 18, 2) := by decide +kernel
theorem dX11_init_109 : decode cX11_init 109 = .ok (.newarray .int, 2) := by decide +kernel
theorem dX11_init_111 : decode cX11_init 111 = .ok (.putfield 49, 3) := by decide +kernel
theorem dX11_init_114 : decode cX11_init 114 = .ok (.aload_n 0, 1) := by decide +kernel
theorem dX11_init_115 : decode cX11_init 115 = .ok (.bipush 7, 2) := by decide +kernel
theorem dX11_init_117 : decode cX11_init 117 = .ok (.newarray .int, 2) := by decide +kernel
theorem dX11_init_119 : decode cX11_init 119 = .ok (.putfield 52, 3) := by decide +kernel
theorem dX11_init_122 : decode cX11_init 122 = .ok (.aload_n 0, 1) := by decide +kernel
theorem dX11_init_123 : decode cX11_init 123 = .ok (.bipush 7, 2) := by decide +kernel
theorem dX11_init_125 : decode cX11_init 125 = .ok (.newarray .int, 2) := by decide +kernel
theorem dX11_init_127 : decode cX11_init 127 = .ok (.putfield 55, 3) := by decide +kernel
theorem dX11_init_130 : decode cX11_init 130 = .ok (.aload_n 0, 1) := by decide +kernel
theorem dX11_init_131 : decode cX11_init 131 = .ok (.bipush 18, 2) := by decide +kernel
theorem dX11_init_133 : decode cX11_init 133 = .ok (.newarray .int, 2) := by decide +kernel
theorem dX11_init_135 : decode cX11_init 135 = .ok (.putfield 58, 3) := by decide +kernel
theorem dX11_init_138 : decode cX11_init 138 = .ok (.aload_n 0, 1) := by decide +kernel
theorem dX11_init_139 : decode cX11_init 139 = .ok (.iconst (-1), 1) := by decide +kernel
theorem dX11_init_140 : decode cX11_init 140 = .ok (.putfield 61, 3) := by decide +kernel
theorem dX11_init_143 : decode cX11_init 143 = .ok (.return_, 1) := by decide +kernel
theorem dX11_in_0 : decode cX11_in 0 = .ok (.lload_n 0, 1) := by decide +kernel
theorem dX11_in_1 : decode cX11_in 1 = .ok (.lload_n 2, 1) := by decide +kernel
theorem dX11_in_2 : decode cX11_in 2 = .ok (.lcmp, 1) := by decide +kernel
theorem dX11_in_3 : decode cX11_in 3 = .ok (.ifCond .lt 14, 3) := by decide +kernel
theorem dX11_in_6 : decode cX11_in 6 = .ok (.lload_n 0, 1) := by decide +kernel
theorem dX11_in_7 : decode cX11_in 7 = .ok (.lload 4, 2) := by decide +kernel
theorem dX11_in_9 : decode cX11_in 9 = .ok (.lcmp, 1) := by decide +kernel
theorem dX11_in_10 : decode cX11_in 10 = .ok (.ifCond .gt 7, 3) := by decide +kernel
theorem dX11_in_13 : decode cX11_in 13 = .ok (.iconst 1, 1) := by decide +kernel
theorem dX11_in_14 : decode cX11_in 14 = .ok (.goto 4, 3) := by decide +kernel
theorem dX11_in_17 : decode cX11_in 17 = .ok (.iconst 0, 1) := by decide +kernel
theorem dX11_in_18 : decode cX11_in 18 = .ok (.ireturn, 1) := by decide +kernel
theorem dX11_letters_0 : decode cX11_letters 0 = .ok (.iconst 0, 1) := by decide +kernel
theorem dX11_letters_1 : decode cX11_letters 1 = .ok (.istore_n 3, 1) := by decide +kernel
theorem dX11_letters_2 : decode cX11_letters 2 = .ok (.iconst 1, 1) := by decide +kernel
theorem dX11_letters_3 : decode cX11_letters 3 = .ok (.istore 4, 2) := by decide +kernel
theorem dX11_letters_5 : decode cX11_letters 5 = .ok (.lload_n 1, 1) := by decide +kernel
theorem dX11_letters_6 : decode cX11_letters 6 = .ok (.lstore 5, 2) := by decide +kernel
theorem dX11_letters_8 : decode cX11_letters 8 = .ok (.iconst 0, 1) := by decide +kernel
theorem dX11_letters_9 : decode cX11_letters 9 = .ok (.istore 7, 2) := by decide +kernel
theorem dX11_letters_11 : decode cX11_letters 11 = .ok (.iload 7, 2) := by decide +kernel
theorem dX11_letters_13 : decode cX11_letters 13 = .ok (.bipush 8, 2) := by decide +kernel
theorem dX11_letters_15 : decode cX11_letters 15 = .ok (.if_icmp .ge 68, 3) := by decide +kernel
theorem dX11_letters_18 : decode cX11_letters 18 = .ok (.lload 5, 2) := by decide +kernel
theorem dX11_letters_20 : decode cX11_letters 20 = .ok (.ldc2_w 65, 3) := by decide +kernel
theorem dX11_letters_23 : decode cX11_letters 23 = .ok (.land, 1) := by decide +kernel
theorem dX11_letters_24 : decode cX11_letters 24 = .ok (.l2i, 1) := by decide +kernel
theorem dX11_letters_25 : decode cX11_letters 25 = .ok (.istore 8, 2) := by decide +kernel
theorem dX11_letters_27 : decode cX11_letters 27 = .ok (.lload 5, 2) := by decide +kernel
theorem dX11_letters_29 : decode cX11_letters 29 = .ok (.bipush 8, 2) := by decide +kernel
theorem dX11_letters_31 : decode cX11_letters 31 = .ok (.lushr, 1) := by decide +kernel
theorem dX11_letters_32 : decode cX11_letters 32 = .ok (.lstore 5, 2) := by decide +kernel
theorem dX11_letters_34 : decode cX11_letters 34 = .ok (.iload 4, 2) := by decide +kernel
theorem dX11_letters_36 : decode cX11_letters 36 = .ok (.ifCond .eq 25, 3) := by decide +kernel
theorem dX11_letters_39 : decode cX11_letters 39 = .ok (.iload 8, 2) := by decide +kernel
theorem dX11_letters_41 : decode cX11_letters 41 = .ok (.bipush 126, 2) := by decide +kernel
theorem dX11_letters_43 : decode cX11_letters 43 = .ok (.if_icmp .gt 18, 3) := by decide +kernel
theorem dX11_letters_46 : decode cX11_letters 46 = .ok (.iload 8, 2) := by decide +kernel
theorem dX11_letters_48 : decode cX11_letters 48 = .ok (.ifCond .eq 9, 3) := by decide +kernel
theorem dX11_letters_51 : decode cX11_letters 51 = .ok (.iload_n 3, 1) := by decide +kernel
theorem dX11_letters_52 : decode cX11_letters 52 = .ok (.iload 7, 2) := by decide +kernel
theorem dX11_letters_54 : decode cX11_letters 54 = .ok (.if_icmp .ne 7, 3) := by decide +kernel
theorem dX11_letters_57 : decode cX11_letters 57 = .ok (.iconst 1, 1) := by decide +kernel
theorem dX11_letters_58 : decode cX11_letters 58 = .ok (.goto 4, 3) := by decide +kernel
theorem dX11_letters_61 : decode cX11_letters 61 = .ok (.iconst 0, 1) := by decide +kernel
theorem dX11_letters_62 : decode cX11_letters 62 = .ok (.istore 4, 2) := by decide +kernel
theorem dX11_letters_64 : decode cX11_letters 64 = .ok (.iload_n 3, 1) := by decide +kernel
theorem dX11_letters_65 : decode cX11_letters 65 = .ok (.iload 8, 2) := by decide +kernel
theorem dX11_letters_67 : decode cX11_letters 67 = .ok (.ifCond .le 7, 3) := by decide +kernel
theorem dX11_letters_70 : decode cX11_letters 70 = .ok (.iconst 1, 1) := by decide +kernel
theorem dX11_letters_71 : decode cX11_letters 71 = .ok (.goto 4, 3) := by decide +kernel
theorem dX11_letters_74 : decode cX11_letters 74 = .ok (.iconst 0, 1) := by decide +kernel
theorem dX11_letters_75 : decode cX11_letters 75 = .ok (.iadd, 1) := by decide +kernel
theorem dX11_letters_76 : decode cX11_letters 76 = .ok (.istore_n 3, 1) := by decide +kernel
theorem dX11_letters_77 : decode cX11_letters 77 = .ok (.iinc 7 1, 3) := by decide +kernel
theorem dX11_letters_80 : decode cX11_letters 80 = .ok (.goto (-69), 3) := by decide +kernel
theorem dX11_letters_83 : decode cX11_letters 83 = .ok (.iload 4, 2) := by decide +kernel
theorem dX11_letters_85 : decode cX11_letters 85 = .ok (.ifCond .ne 6, 3) := by decide +kernel
theorem dX11_letters_88 : decode cX11_letters 88 = .ok (.bipush (-102), 2) := by decide +kernel
theorem dX11_letters_90 : decode cX11_letters 90 = .ok (.ireturn, 1) := by decide +kernel
theorem dX11_letters_91 : decode cX11_letters 91 = .ok (.aload_n 0, 1) := by decide +kernel
theorem dX11_letters_92 : decode cX11_letters 92 = .ok (.getfield 67, 3) := by decide +kernel
theorem dX11_letters_95 : decode cX11_letters 95 = .ok (.iload_n 3, 1) := by decide +kernel
theorem dX11_letters_96 : decode cX11_letters 96 = .ok (.iadd, 1) := by decide +kernel
theorem dX11_letters_97 : decode cX11_letters 97 = .ok (.bipush 66, 2) := by decide +kernel
theorem dX11_letters_99 : decode cX11_letters 99 = .ok (.if_icmp .le 6, 3) := by decide +kernel
theorem dX11_letters_102 : decode cX11_letters 102 = .ok (.bipush (-104), 2) := by decide +kernel
theorem dX11_letters_104 : decode cX11_letters 104 = .ok (.ireturn, 1) := by decide +kernel
theorem dX11_letters_105 : decode cX11_letters 105 = .ok (.iconst 0, 1) := by decide +kernel
theorem dX11_letters_106 : decode cX11_letters 106 = .ok (.istore 7, 2) := by decide +kernel
theorem dX11_letters_108 : decode cX11_letters 108 = .ok (.iload 7, 2) := by decide +kernel
theorem dX11_letters_110 : decode cX11_letters 110 = .ok (.iload_n 3, 1) := by decide +kernel
theorem dX11_letters_111 : decode cX11_letters 111 = .ok (.if_icmp .ge 40, 3) := by decide +kernel
theorem dX11_letters_114 : decode cX11_letters 114 = .ok (.aload_n 0, 1) := by decide +kernel
theorem dX11_letters_115 : decode cX11_letters 115 = .ok (.getfield 7, 3) := by decide +kernel
theorem dX11_letters_118 : decode cX11_letters 118 = .ok (.aload_n 0, 1) := by decide +kernel
theorem dX11_letters_119 : decode cX11_letters 119 = .ok (.getfield 67, 3) := by decide +kernel
theorem dX11_letters_122 : decode cX11_letters 122 = .ok (.lload_n 1, 1) := by decide +kernel
theorem dX11_letters_123 : decode cX11_letters 123 = .ok (.bipush 8, 2) := by decide +kernel
theorem dX11_letters_125 : decode cX11_letters 125 = .ok (.iload 7, 2) := by decide +kernel
theorem dX11_letters_127 : decode cX11_letters 127 = .ok (.imul, 1) := by decide +kernel
theorem dX11_letters_128 : decode cX11_letters 128 = .ok (.lushr, 1) := by decide +kernel
theorem dX11_letters_129 : decode cX11_letters 129 = .ok (.ldc2_w 65, 3) := by decide +kernel
theorem dX11_letters_132 : decode cX11_letters 132 = .ok (.land, 1) := by decide +kernel
theorem dX11_letters_133 : decode cX11_letters 133 = .ok (.l2i, 1) := by decide +kernel
theorem dX11_letters_134 : decode cX11_letters 134 = .ok (.iastore, 1) := by decide +kernel
theorem dX11_letters_135 : decode cX11_letters 135 = .ok (.aload_n 0, 1) := by decide +kernel
theorem dX11_letters_136 : decode cX11_letters 136 = .ok (.dup, 1) := by decide +kernel
theorem dX11_letters_137 : decode cX11_letters 137 = .ok (.getfield 67, 3) := by decide +kernel
theorem dX11_letters_140 : decode cX11_letters 140 = .ok (.iconst 1, 1) := by decide +kernel
theorem dX11_letters_141 : decode cX11_letters 141 = .ok (.iadd, 1) := by decide +kernel
theorem dX11_letters_142 : decode cX11_letters 142 = .ok (.putfield 67, 3) := by decide +kernel
theorem dX11_letters_145 : decode cX11_letters 145 = .ok (.iinc 7 1, 3) := by decide +kernel
theorem dX11_letters_148 : decode cX11_letters 148 = .ok (.goto (-40), 3) := by decide +kernel
theorem dX11_letters_151 : decode cX11_letters 151 = .ok (.aload_n 0, 1) := by decide +kernel
theorem dX11_letters_152 : decode cX11_letters 152 = .ok (.getfield 67, 3) := by decide +kernel
theorem dX11_letters_155 : decode cX11_letters 155 = .ok (.ireturn, 1) := by decide +kernel
theorem dX11_blank_0 : decode cX11_blank 0 = .ok (.aload_n 0, 1) := by decide +kernel
theorem dX11_blank_1 : decode cX11_blank 1 = .ok (.getfield 67, 3) := by decide +kernel
theorem dX11_blank_4 : decode cX11_blank 4 = .ok (.istore_n 1, 1) := by decide +kernel
theorem dX11_blank_5 : decode cX11_blank 5 = .ok (.aload_n 0, 1) := by decide +kernel
theorem dX11_blank_6 : decode cX11_blank 6 = .ok (.iconst 0, 1) := by decide +kernel
theorem dX11_blank_7 : decode cX11_blank 7 = .ok (.putfield 67, 3) := by decide +kernel
theorem dX11_blank_10 : decode cX11_blank 10 = .ok (.iload_n 1, 1) := by decide +kernel
theorem dX11_blank_11 : decode cX11_blank 11 = .ok (.ireturn, 1) := by decide +kernel
set_option maxRecDepth 20000 in
theorem ggX11_goGallery_X11_in : GoodIn wsX11_goGallery wsX11_in := goodIn_r _ [9] (by decide +kernel) (by decide +kernel)
set_option maxRecDepth 20000 in
theorem gX11_goGallery_X11_in : GoodIn wsX11_goGallery (va_wsS RX11 78 yX11_in wsX11_in) := goodIn_app (goodIn_of _ (by decide +kernel)) ggX11_goGallery_X11_in
theorem dX11_goGallery_0 : decode cX11_goGallery 0 = .ok (.iconst 4, 1) := by decide +kernel
theorem dX11_goGallery_1 : decode cX11_goGallery 1 = .ok (.aload_n 0, 1) := by decide +kernel
theorem dX11_goGallery_2 : decode cX11_goGallery 2 = .ok (.getfield 70, 3) := by decide +kernel
theorem dX11_goGallery_5 : decode cX11_goGallery 5 = .ok (.imul, 1) := by decide +kernel
theorem dX11_goGallery_6 : decode cX11_goGallery 6 = .ok (.istore_n 2, 1) := by decide +kernel
theorem dX11_goGallery_7 : decode cX11_goGallery 7 = .ok (.aload_n 0, 1) := by decide +kernel
theorem dX11_goGallery_8 : decode cX11_goGallery 8 = .ok (.getfield 73, 3) := by decide +kernel
theorem dX11_goGallery_11 : decode cX11_goGallery 11 = .ok (.iconst 2, 1) := by decide +kernel
theorem dX11_goGallery_12 : decode cX11_goGallery 12 = .ok (.if_icmp .ne 46, 3) := by decide +kernel
theorem dX11_goGallery_15 : decode cX11_goGallery 15 = .ok (.aload_n 0, 1) := by decide +kernel
theorem dX11_goGallery_16 : decode cX11_goGallery 16 = .ok (.getfield 13, 3) := by decide +kernel
theorem dX11_goGallery_19 : decode cX11_goGallery 19 = .ok (.iload_n 2, 1) := by decide +kernel
theorem dX11_goGallery_20 : decode cX11_goGallery 20 = .ok (.iconst 2, 1) := by decide +kernel
theorem dX11_goGallery_21 : decode cX11_goGallery 21 = .ok (.iadd, 1) := by decide +kernel
theorem dX11_goGallery_22 : decode cX11_goGallery 22 = .ok (.iload_n 1, 1) := by decide +kernel
theorem dX11_goGallery_23 : decode cX11_goGallery 23 = .ok (.iastore, 1) := by decide +kernel
theorem dX11_goGallery_24 : decode cX11_goGallery 24 = .ok (.aload_n 0, 1) := by decide +kernel
theorem dX11_goGallery_25 : decode cX11_goGallery 25 = .ok (.getfield 13, 3) := by decide +kernel
theorem dX11_goGallery_28 : decode cX11_goGallery 28 = .ok (.iload_n 2, 1) := by decide +kernel
theorem dX11_goGallery_29 : decode cX11_goGallery 29 = .ok (.iconst 3, 1) := by decide +kernel
theorem dX11_goGallery_30 : decode cX11_goGallery 30 = .ok (.iadd, 1) := by decide +kernel
theorem dX11_goGallery_31 : decode cX11_goGallery 31 = .ok (.iconst 0, 1) := by decide +kernel
theorem dX11_goGallery_32 : decode cX11_goGallery 32 = .ok (.iastore, 1) := by decide +kernel
theorem dX11_goGallery_33 : decode cX11_goGallery 33 = .ok (.aload_n 0, 1) := by decide +kernel
theorem dX11_goGallery_34 : decode cX11_goGallery 34 = .ok (.dup, 1) := by decide +kernel
theorem dX11_goGallery_35 : decode cX11_goGallery 35 = .ok (.getfield 70, 3) := by decide +kernel
theorem dX11_goGallery_38 : decode cX11_goGallery 38 = .ok (.iconst 1, 1) := by decide +kernel
theorem dX11_goGallery_39 : decode cX11_goGallery 39 = .ok (.iadd, 1) := by decide +kernel
theorem dX11_goGallery_40 : decode cX11_goGallery 40 = .ok (.putfield 70, 3) := by decide +kernel
theorem dX11_goGallery_43 : decode cX11_goGallery 43 = .ok (.aload_n 0, 1) := by decide +kernel
theorem dX11_goGallery_44 : decode cX11_goGallery 44 = .ok (.iconst 3, 1) := by decide +kernel
