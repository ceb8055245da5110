set_option maxRecDepth 20000 in
theorem ggX4_append_X8_set : GoodIn wsX4_append wsX8_set := goodIn_r _ [12, 13, 17] (by decide +kernel) (by decide +kernel)
set_option maxRecDepth 20000 in
theorem gX4_append_X8_set : GoodIn wsX4_append (wsV RX4 37 RX8 yX8_set wsX8_set) := goodIn_app (goodIn_of _ (by decide +kernel)) ggX4_append_X8_set
theorem dX4_append_0 : decode cX4_append 0 = .ok (.iconst 0, 1) := by decide +kernel
theorem dX4_append_1 : decode cX4_append 1 = .ok (.istore 4, 2) := by decide +kernel
theorem dX4_append_3 : decode cX4_append 3 = .ok (.iload 4, 2) := by decide +kernel
theorem dX4_append_5 : decode cX4_append 5 = .ok (.iload_n 3, 1) := by decide +kernel
theorem dX4_append_6 : decode cX4_append 6 = .ok (.if_icmp .ge 36, 3) := by decide +kernel
theorem dX4_append_9 : decode cX4_append 9 = .ok (.aload_n 0, 1) := by decide +kernel
theorem dX4_append_10 : decode cX4_append 10 = .ok (.getfield 14, 3) := by decide +kernel
theorem dX4_append_13 : decode cX4_append 13 = .ok (.aload_n 0, 1) := by decide +kernel
theorem dX4_append_14 : decode cX4_append 14 = .ok (.getfield 33, 3) := by decide +kernel
theorem dX4_append_17 : decode cX4_append 17 = .ok (.lload_n 1, 1) := by decide +kernel
theorem dX4_append_18 : decode cX4_append 18 = .ok (.iload 4, 2) := by decide +kernel
theorem dX4_append_20 : decode cX4_append 20 = .ok (.invokestatic 27, 3) := by decide +kernel
theorem dX4_append_23 : decode cX4_append 23 = .ok (.invokevirtual 37, 3) := by decide +kernel
theorem dX4_append_26 : decode cX4_append 26 = .ok (.aload_n 0, 1) := by decide +kernel
theorem dX4_append_27 : decode cX4_append 27 = .ok (.dup, 1) := by decide +kernel
theorem dX4_append_28 : decode cX4_append 28 = .ok (.getfield 33, 3) := by decide +kernel
theorem dX4_append_31 : decode cX4_append 31 = .ok (.iconst 1, 1) := by decide +kernel
theorem dX4_append_32 : decode cX4_append 32 = .ok (.iadd, 1) := by decide +kernel
theorem dX4_append_33 : decode cX4_append 33 = .ok (.putfield 33, 3) := by decide +kernel
theorem dX4_append_36 : decode cX4_append 36 = .ok (.iinc 4 1, 3) := by decide +kernel
theorem dX4_append_39 : decode cX4_append 39 = .ok (.goto (-36), 3) := by decide +kernel
theorem dX4_append_42 : decode cX4_append 42 = .ok (.return_, 1) := by decide +kernel
set_option maxRecDepth 20000 in
theorem ggX4_firstFault_X6_start : GoodIn wsX4_firstFault wsX6_start := goodIn_r _ [8, 9, 10, 11, 39, 40, 41, 42] (by decide +kernel) (by decide +kernel)
set_option maxRecDepth 20000 in
theorem gX4_firstFault_X6_start : GoodIn wsX4_firstFault (wsV RX4 41 RX6 yX6_start wsX6_start) := goodIn_app (goodIn_of _ (by decide +kernel)) ggX4_firstFault_X6_start
set_option maxRecDepth 20000 in
theorem ggX4_firstFault_X8_get : GoodIn wsX4_firstFault wsX8_get := goodIn_r _ [16, 17, 43] (by decide +kernel) (by decide +kernel)
set_option maxRecDepth 20000 in
theorem gX4_firstFault_X8_get : GoodIn wsX4_firstFault (wsV RX4 44 RX8 yX8_get wsX8_get) := goodIn_app (goodIn_of _ (by decide +kernel)) ggX4_firstFault_X8_get
set_option maxRecDepth 20000 in
theorem ggX4_firstFault_X6_takes : GoodIn wsX4_firstFault wsX6_takes := goodIn_r _ [21, 9, 22, 10, 23, 24, 25, 26, 27, 28, 7, 29, 30, 31, 32, 33, 11, 34, 35, 39, 40, 41, 42] (by decide +kernel) (by decide +kernel)
set_option maxRecDepth 20000 in
theorem gX4_firstFault_X6_takes : GoodIn wsX4_firstFault (wsV RX4 48 RX6 yX6_takes wsX6_takes) := goodIn_app (goodIn_of _ (by decide +kernel)) ggX4_firstFault_X6_takes
theorem dX4_firstFault_0 : decode cX4_firstFault 0 = .ok (.aload_n 0, 1) := by decide +kernel
theorem dX4_firstFault_1 : decode cX4_firstFault 1 = .ok (.getfield 23, 3) := by decide +kernel
theorem dX4_firstFault_4 : decode cX4_firstFault 4 = .ok (.invokevirtual 41, 3) := by decide +kernel
theorem dX4_firstFault_7 : decode cX4_firstFault 7 = .ok (.iconst 0, 1) := by decide +kernel
theorem dX4_firstFault_8 : decode cX4_firstFault 8 = .ok (.istore_n 1, 1) := by decide +kernel
theorem dX4_firstFault_9 : decode cX4_firstFault 9 = .ok (.iload_n 1, 1) := by decide +kernel
theorem dX4_firstFault_10 : decode cX4_firstFault 10 = .ok (.aload_n 0, 1) := by decide +kernel
theorem dX4_firstFault_11 : decode cX4_firstFault 11 = .ok (.getfield 33, 3) := by decide +kernel
theorem dX4_firstFault_14 : decode cX4_firstFault 14 = .ok (.if_icmp .ge 29, 3) := by decide +kernel
theorem dX4_firstFault_17 : decode cX4_firstFault 17 = .ok (.aload_n 0, 1) := by decide +kernel
theorem dX4_firstFault_18 : decode cX4_firstFault 18 = .ok (.getfield 23, 3) := by decide +kernel
theorem dX4_firstFault_21 : decode cX4_firstFault 21 = .ok (.aload_n 0, 1) := by decide +kernel
theorem dX4_firstFault_22 : decode cX4_firstFault 22 = .ok (.getfield 14, 3) := by decide +kernel
theorem dX4_firstFault_25 : decode cX4_firstFault 25 = .ok (.iload_n 1, 1) := by decide +kernel
theorem dX4_firstFault_26 : decode cX4_firstFault 26 = .ok (.invokevirtual 44, 3) := by decide +kernel
theorem dX4_firstFault_29 : decode cX4_firstFault 29 = .ok (.invokevirtual 48, 3) := by decide +kernel
theorem dX4_firstFault_32 : decode cX4_firstFault 32 = .ok (.ifCond .ne 5, 3) := by decide +kernel
theorem dX4_firstFault_35 : decode cX4_firstFault 35 = .ok (.iload_n 1, 1) := by decide +kernel
theorem dX4_firstFault_36 : decode cX4_firstFault 36 = .ok (.ireturn, 1) := by decide +kernel
theorem dX4_firstFault_37 : decode cX4_firstFault 37 = .ok (.iinc 1 1, 3) := by decide +kernel
theorem dX4_firstFault_40 : decode cX4_firstFault 40 = .ok (.goto (-31), 3) := by decide +kernel
theorem dX4_firstFault_43 : decode cX4_firstFault 43 = .ok (.aload_n 0, 1) := by decide +kernel
theorem dX4_firstFault_44 : decode cX4_firstFault 44 = .ok (.getfield 33, 3) := by decide +kernel
theorem dX4_firstFault_47 : decode cX4_firstFault 47 = .ok (.ireturn, 1) := by decide +kernel
set_option maxRecDepth 20000 in
theorem ggX4_isMine_X4_firstFault : GoodIn wsX4_isMine wsX4_firstFault := goodIn_r _ [7, 2, 1, 8, 9, 10, 11, 12, 13, 14, 15, 16, 17, 18, 19, 20, 21, 22, 23, 24, 25, 26, 27, 28, 29, 30, 31, 32, 33, 34, 35, 36, 37, 38, 39, 40, 52, 53, 54, 55, 56, 57, 58, 59] (by decide +kernel) (by decide +kernel)
set_option maxRecDepth 20000 in
theorem gX4_isMine_X4_firstFault : GoodIn wsX4_isMine (wsV RX4 52 RX4 yX4_firstFault wsX4_firstFault) := goodIn_app (goodIn_of _ (by decide +kernel)) ggX4_isMine_X4_firstFault
set_option maxRecDepth 20000 in
theorem ggX4_isMine_X6_mayEnd : GoodIn wsX4_isMine wsX6_mayEnd := goodIn_r _ [44, 14, 16, 45, 46, 47, 48, 49, 50, 51, 55, 56, 57, 58] (by decide +kernel) (by decide +kernel)
set_option maxRecDepth 20000 in
theorem gX4_isMine_X6_mayEnd : GoodIn wsX4_isMine (wsV RX4 56 RX6 yX6_mayEnd wsX6_mayEnd) := goodIn_app (goodIn_of _ (by decide +kernel)) ggX4_isMine_X6_mayEnd
theorem dX4_isMine_0 : decode cX4_isMine 0 = .ok (.aload_n 0, 1) := by decide +kernel
theorem dX4_isMine_1 : decode cX4_isMine 1 = .ok (.invokevirtual 52, 3) := by decide +kernel
theorem dX4_isMine_4 : decode cX4_isMine 4 = .ok (.aload_n 0, 1) := by decide +kernel
theorem dX4_isMine_5 : decode cX4_isMine 5 = .ok (.getfield 33, 3) := by decide +kernel
theorem dX4_isMine_8 : decode cX4_isMine 8 = .ok (.if_icmp .ne 17, 3) := by decide +kernel
theorem dX4_isMine_11 : decode cX4_isMine 11 = .ok (.aload_n 0, 1) := by decide +kernel
theorem dX4_isMine_12 : decode cX4_isMine 12 = .ok (.getfield 23, 3) := by decide +kernel
theorem dX4_isMine_15 : decode cX4_isMine 15 = .ok (.invokevirtual 56, 3) := by decide +kernel
theorem dX4_isMine_18 : decode cX4_isMine 18 = .ok (.ifCond .eq 7, 3) := by decide +kernel
theorem dX4_isMine_21 : decode cX4_isMine 21 = .ok (.iconst 1, 1) := by decide +kernel
theorem dX4_isMine_22 : decode cX4_isMine 22 = .ok (.goto 4, 3) := by decide +kernel
theorem dX4_isMine_25 : decode cX4_isMine 25 = .ok (.iconst 0, 1) := by decide +kernel
theorem dX4_isMine_26 : decode cX4_isMine 26 = .ok (.ireturn, 1) := by decide +kernel
set_option maxRecDepth 20000 in
theorem ggX4_digit_X8_get : GoodIn wsX4_digit wsX8_get := goodIn_r _ [6, 7, 11] (by decide +kernel) (by decide +kernel)
set_option maxRecDepth 20000 in
theorem gX4_digit_X8_get : GoodIn wsX4_digit (wsV RX4 44 RX8 yX8_get wsX8_get) := goodIn_app (goodIn_of _ (by decide +kernel)) ggX4_digit_X8_get
theorem dX4_digit_0 : decode cX4_digit 0 = .ok (.aload_n 0, 1) := by decide +kernel
theorem dX4_digit_1 : decode cX4_digit 1 = .ok (.getfield 14, 3) := by decide +kernel
theorem dX4_digit_4 : decode cX4_digit 4 = .ok (.iload_n 1, 1) := by decide +kernel
theorem dX4_digit_5 : decode cX4_digit 5 = .ok (.invokevirtual 44, 3) := by decide +kernel
theorem dX4_digit_8 : decode cX4_digit 8 = .ok (.bipush 48, 2) := by decide +kernel
theorem dX4_digit_10 : decode cX4_digit 10 = .ok (.isub, 1) := by decide +kernel
theorem dX4_digit_11 : decode cX4_digit 11 = .ok (.ireturn, 1) := by decide +kernel
set_option maxRecDepth 20000 in
theorem ggX5_init_X8_init : GoodIn wsX5_init wsX8_init := goodIn_r _ [13, 14, 2, 3, 15, 16, 17] (by decide +kernel) (by decide +kernel)
set_option maxRecDepth 20000 in
theorem gX5_init_X8_init : GoodIn wsX5_init (wsX8_init) := ggX5_init_X8_init
theorem dX5_init_0 : decode cX5_init 0 = .ok (.aload_n 0, 1) := by decide +kernel
theorem dX5_init_1 : decode cX5_init 1 = .ok (.invokespecial 3, 3) := by decide +kernel
theorem dX5_init_4 : decode cX5_init 4 = .ok (.aload_n 0, 1) := by decide +kernel
theorem dX5_init_5 : decode cX5_init 5 = .ok (.new 9, 3) := by decide +kernel
theorem dX5_init_8 : decode cX5_init 8 = .ok (.dup, 1) := by decide +kernel
theorem dX5_init_9 : decode cX5_init 9 = .ok (.bipush 10, 2) := by decide +kernel
theorem dX5_init_11 : decode cX5_init 11 = .ok (.invokespecial 11, 3) := by decide +kernel
theorem dX5_init_14 : decode cX5_init 14 = .ok (.putfield 14, 3) := by decide +kernel
theorem dX5_init_17 : decode cX5_init 17 = .ok (.aload_n 0, 1) := by decide +kernel
theorem dX5_init_18 : decode cX5_init 18 = .ok (.new 9, 3) := by decide +kernel
theorem dX5_init_21 : decode cX5_init 21 = .ok (.dup, 1) := by decide +kernel
theorem dX5_init_22 : decode cX5_init 22 = .ok (.bipush 10, 2) := by decide +kernel
theorem dX5_init_24 : decode cX5_init 24 = .ok (.invokespecial 11, 3) := by decide +kernel
theorem dX5_init_27 : decode cX5_init 27 = .ok (.putfield 20, 3) := by decide +kernel
theorem dX5_init_30 : decode cX5_init 30 = .ok (.aload_n 0, 1) := by decide +kernel
theorem dX5_init_31 : decode cX5_init 31 = .ok (.new 9, 3) := by decide +kernel
theorem dX5_init_34 : decode cX5_init 34 = .ok (.dup, 1) := by decide +kernel
theorem dX5_init_35 : decode cX5_init 35 = .ok (.bipush 10, 2) := by decide +kernel
theorem dX5_init_37 : decode cX5_init 37 = .ok (.invokespecial 11, 3) := by decide +kernel
theorem dX5_init_40 : decode cX5_init 40 = .ok (.putfield 23, 3) := by decide +kernel
theorem dX5_init_43 : decode cX5_init 43 = .ok (.aload_n 0, 1) := by decide +kernel
theorem dX5_init_44 : decode cX5_init 44 = .ok (.new 9, 3) := by decide +kernel
theorem dX5_init_47 : decode cX5_init 47 = .ok (.dup, 1) := by decide +kernel
theorem dX5_init_48 : decode cX5_init 48 = .ok (.bipush 7, 2) := by decide +kernel
theorem dX5_init_50 : decode cX5_init 50 = .ok (.invokespecial 11, 3) := by decide +kernel
theorem dX5_init_53 : decode cX5_init 53 = .ok (.putfield 26, 3) := by decide +kernel
theorem dX5_init_56 : decode cX5_init 56 = .ok (.return_, 1) := by decide +kernel
theorem dX5_isRead_0 : decode cX5_isRead 0 = .ok (.aload_n 0, 1) := by decide +kernel
theorem dX5_isRead_1 : decode cX5_isRead 1 = .ok (.getfield 29, 3) := by decide +kernel
theorem dX5_isRead_4 : decode cX5_isRead 4 = .ok (.ifCond .le 7, 3) := by decide +kernel
theorem dX5_isRead_7 : decode cX5_isRead 7 = .ok (.iconst 1, 1) := by decide +kernel
theorem dX5_isRead_8 : decode cX5_isRead 8 = .ok (.goto 4, 3) := by decide +kernel
theorem dX5_isRead_11 : decode cX5_isRead 11 = .ok (.iconst 0, 1) := by decide +kernel
theorem dX5_isRead_12 : decode cX5_isRead 12 = .ok (.ireturn, 1) := by decide +kernel
theorem dX5_hasGallery_0 : decode cX5_hasGallery 0 = .ok (.iload_n 1, 1) := by decide +kernel
theorem dX5_hasGallery_1 : decode cX5_hasGallery 1 = .ok (.ifCond .lt 15, 3) := by decide +kernel
theorem dX5_hasGallery_4 : decode cX5_hasGallery 4 = .ok (.iload_n 1, 1) := by decide +kernel
theorem dX5_hasGallery_5 : decode cX5_hasGallery 5 = .ok (.aload_n 0, 1) := by decide +kernel
theorem dX5_hasGallery_6 : decode cX5_hasGallery 6 = .ok (.getfield 29, 3) := by decide +kernel
theorem dX5_hasGallery_9 : decode cX5_hasGallery 9 = .ok (.if_icmp .ge 7, 3) := by decide +kernel
theorem dX5_hasGallery_12 : decode cX5_hasGallery 12 = .ok (.iconst 1, 1) := by decide +kernel
theorem dX5_hasGallery_13 : decode cX5_hasGallery 13 = .ok (.goto 4, 3) := by decide +kernel
theorem dX5_hasGallery_16 : decode cX5_hasGallery 16 = .ok (.iconst 0, 1) := by decide +kernel
theorem dX5_hasGallery_17 : decode cX5_hasGallery 17 = .ok (.ireturn, 1) := by decide +kernel
set_option maxRecDepth 20000 in
theorem ggX5_isShaft_X10_bit : GoodIn wsX5_isShaft wsX10_bit := goodIn_r _ [4] (by decide +kernel) (by decide +kernel)
set_option maxRecDepth 20000 in
theorem gX5_isShaft_X10_bit_n36 : GoodIn wsX5_isShaft (wsX10_bit) := ggX5_isShaft_X10_bit
theorem dX5_isShaft_0 : decode cX5_isShaft 0 = .ok (.aload_n 0, 1) := by decide +kernel
theorem dX5_isShaft_1 : decode cX5_isShaft 1 = .ok (.getfield 33, 3) := by decide +kernel
theorem dX5_isShaft_4 : decode cX5_isShaft 4 = .ok (.iload_n 1, 1) := by decide +kernel
theorem dX5_isShaft_5 : decode cX5_isShaft 5 = .ok (.invokestatic 36, 3) := by decide +kernel
theorem dX5_isShaft_8 : decode cX5_isShaft 8 = .ok (.iconst 1, 1) := by decide +kernel
theorem dX5_isShaft_9 : decode cX5_isShaft 9 = .ok (.if_icmp .ne 7, 3) := by decide +kernel
theorem dX5_isShaft_12 : decode cX5_isShaft 12 = .ok (.iconst 1, 1) := by decide +kernel
theorem dX5_isShaft_13 : decode cX5_isShaft 13 = .ok (.goto 4, 3) := by decide +kernel
theorem dX5_isShaft_16 : decode cX5_isShaft 16 = .ok (.iconst 0, 1) := by decide +kernel
theorem dX5_isShaft_17 : decode cX5_isShaft 17 = .ok (.ireturn, 1) := by decide +kernel
theorem dX5_allGalleries_0 : decode cX5_allGalleries 0 = .ok (.iconst 1, 1) := by decide +kernel
theorem dX5_allGalleries_1 : decode cX5_allGalleries 1 = .ok (.aload_n 0, 1) := by decide +kernel
theorem dX5_allGalleries_2 : decode cX5_allGalleries 2 = .ok (.getfield 29, 3) := by decide +kernel
theorem dX5_allGalleries_5 : decode cX5_allGalleries 5 = .ok (.ishl, 1) := by decide +kernel
theorem dX5_allGalleries_6 : decode cX5_allGalleries 6 = .ok (.iconst 1, 1) := by decide +kernel
theorem dX5_allGalleries_7 : decode cX5_allGalleries 7 = .ok (.isub, 1) := by decide +kernel
theorem dX5_allGalleries_8 : decode cX5_allGalleries 8 = .ok (.ireturn, 1) := by decide +kernel
set_option maxRecDepth 20000 in
theorem ggX5_readFrom_X8_get : GoodIn wsX5_readFrom wsX8_get := goodIn_r _ [11, 12, 46] (by decide +kernel) (by decide +kernel)
set_option maxRecDepth 20000 in
theorem gX5_readFrom_X8_get : GoodIn wsX5_readFrom (wsV RX5 48 RX8 yX8_get wsX8_get) := goodIn_app (goodIn_of _ (by decide +kernel)) ggX5_readFrom_X8_get
set_option maxRecDepth 20000 in
theorem ggX5_readFrom_X4_digit : GoodIn wsX5_readFrom wsX4_digit := goodIn_r _ [17, 18, 19, 8, 9, 10, 11, 12, 43, 44, 45, 46] (by decide +kernel) (by decide +kernel)
set_option maxRecDepth 20000 in
theorem gX5_readFrom_X4_digit : GoodIn wsX5_readFrom (wsV RX5 52 RX4 yX4_digit wsX4_digit) := goodIn_app (goodIn_of _ (by decide +kernel)) ggX5_readFrom_X4_digit
set_option maxRecDepth 20000 in
theorem ggX5_readFrom_X8_set : GoodIn wsX5_readFrom wsX8_set := goodIn_r _ [23, 12, 46] (by decide +kernel) (by decide +kernel)
set_option maxRecDepth 20000 in
theorem gX5_readFrom_X8_set : GoodIn wsX5_readFrom (wsV RX5 55 RX8 yX8_set wsX8_set) := goodIn_app (goodIn_of _ (by decide +kernel)) ggX5_readFrom_X8_set
set_option maxRecDepth 20000 in
theorem ggX5_readFrom_X5_readShafts : GoodIn wsX5_readFrom wsX5_readShafts := goodIn_r _ [28, 29, 30, 31, 32, 33, 34, 10, 35, 12, 13, 14, 15, 16, 17, 18, 19, 8, 9, 11, 20, 21, 22, 23, 36, 37, 38, 39, 40, 41, 42, 43, 44, 45, 46] (by decide +kernel) (by decide +kernel)
set_option maxRecDepth 20000 in
theorem gX5_readFrom_X5_readShafts : GoodIn wsX5_readFrom (wsV RX5 59 RX5 yX5_readShafts wsX5_readShafts) := goodIn_app (goodIn_of _ (by decide +kernel)) ggX5_readFrom_X5_readShafts
theorem dX5_readFrom_0 : decode cX5_readFrom 0 = .ok (.aload_n 0, 1) := by decide +kernel
theorem dX5_readFrom_1 : decode cX5_readFrom 1 = .ok (.iconst 0, 1) := by decide +kernel
theorem dX5_readFrom_2 : decode cX5_readFrom 2 = .ok (.putfield 29, 3) := by decide +kernel
theorem dX5_readFrom_5 : decode cX5_readFrom 5 = .ok (.aload_n 0, 1) := by decide +kernel
theorem dX5_readFrom_6 : decode cX5_readFrom 6 = .ok (.iconst 0, 1) := by decide +kernel
theorem dX5_readFrom_7 : decode cX5_readFrom 7 = .ok (.putfield 40, 3) := by decide +kernel
theorem dX5_readFrom_10 : decode cX5_readFrom 10 = .ok (.iconst 0, 1) := by decide +kernel
theorem dX5_readFrom_11 : decode cX5_readFrom 11 = .ok (.istore_n 2, 1) := by decide +kernel
theorem dX5_readFrom_12 : decode cX5_readFrom 12 = .ok (.iconst 0, 1) := by decide +kernel
theorem dX5_readFrom_13 : decode cX5_readFrom 13 = .ok (.istore_n 3, 1) := by decide +kernel
theorem dX5_readFrom_14 : decode cX5_readFrom 14 = .ok (.iload_n 3, 1) := by decide +kernel
theorem dX5_readFrom_15 : decode cX5_readFrom 15 = .ok (.bipush 10, 2) := by decide +kernel
theorem dX5_readFrom_17 : decode cX5_readFrom 17 = .ok (.if_icmp .ge 115, 3) := by decide +kernel
theorem dX5_readFrom_20 : decode cX5_readFrom 20 = .ok (.iload_n 2, 1) := by decide +kernel
theorem dX5_readFrom_21 : decode cX5_readFrom 21 = .ok (.ifCond .eq 18, 3) := by decide +kernel
theorem dX5_readFrom_24 : decode cX5_readFrom 24 = .ok (.aload_n 1, 1) := by decide +kernel
theorem dX5_readFrom_25 : decode cX5_readFrom 25 = .ok (.getfield 43, 3) := by decide +kernel
theorem dX5_readFrom_28 : decode cX5_readFrom 28 = .ok (.iload_n 2, 1) := by decide +kernel
theorem dX5_readFrom_29 : decode cX5_readFrom 29 = .ok (.iconst 1, 1) := by decide +kernel
theorem dX5_readFrom_30 : decode cX5_readFrom 30 = .ok (.isub, 1) := by decide +kernel
theorem dX5_readFrom_31 : decode cX5_readFrom 31 = .ok (.invokevirtual 48, 3) := by decide +kernel
theorem dX5_readFrom_34 : decode cX5_readFrom 34 = .ok (.bipush 44, 2) := by decide +kernel
theorem dX5_readFrom_36 : decode cX5_readFrom 36 = .ok (.if_icmp .ne 96, 3) := by decide +kernel
theorem dX5_readFrom_39 : decode cX5_readFrom 39 = .ok (.aload_n 0, 1) := by decide +kernel
theorem dX5_readFrom_40 : decode cX5_readFrom 40 = .ok (.getfield 14, 3) := by decide +kernel
theorem dX5_readFrom_43 : decode cX5_readFrom 43 = .ok (.iload_n 3, 1) := by decide +kernel
theorem dX5_readFrom_44 : decode cX5_readFrom 44 = .ok (.aload_n 1, 1) := by decide +kernel
theorem dX5_readFrom_45 : decode cX5_readFrom 45 = .ok (.iload_n 2, 1) := by decide +kernel
theorem dX5_readFrom_46 : decode cX5_readFrom 46 = .ok (.invokevirtual 52, 3) := by decide +kernel
theorem dX5_readFrom_49 : decode cX5_readFrom 49 = .ok (.invokevirtual 55, 3) := by decide +kernel
theorem dX5_readFrom_52 : decode cX5_readFrom 52 = .ok (.aload_n 0, 1) := by decide +kernel
theorem dX5_readFrom_53 : decode cX5_readFrom 53 = .ok (.getfield 20, 3) := by decide +kernel
theorem dX5_readFrom_56 : decode cX5_readFrom 56 = .ok (.iload_n 3, 1) := by decide +kernel
theorem dX5_readFrom_57 : decode cX5_readFrom 57 = .ok (.aload_n 1, 1) := by decide +kernel
theorem dX5_readFrom_58 : decode cX5_readFrom 58 = .ok (.iload_n 2, 1) := by decide +kernel
theorem dX5_readFrom_59 : decode cX5_readFrom 59 = .ok (.iconst 1, 1) := by decide +kernel
theorem dX5_readFrom_60 : decode cX5_readFrom 60 = .ok (.iadd, 1) := by decide +kernel
theorem dX5_readFrom_61 : decode cX5_readFrom 61 = .ok (.invokevirtual 52, 3) := by decide +kernel
theorem dX5_readFrom_64 : decode cX5_readFrom 64 = .ok (.invokevirtual 55, 3) := by decide +kernel
theorem dX5_readFrom_67 : decode cX5_readFrom 67 = .ok (.aload_n 0, 1) := by decide +kernel
theorem dX5_readFrom_68 : decode cX5_readFrom 68 = .ok (.getfield 23, 3) := by decide +kernel
theorem dX5_readFrom_71 : decode cX5_readFrom 71 = .ok (.iload_n 3, 1) := by decide +kernel
theorem dX5_readFrom_72 : decode cX5_readFrom 72 = .ok (.aload_n 1, 1) := by decide +kernel
theorem dX5_readFrom_73 : decode cX5_readFrom 73 = .ok (.iload_n 2, 1) := by decide +kernel
theorem dX5_readFrom_74 : decode cX5_readFrom 74 = .ok (.iconst 2, 1) := by decide +kernel
theorem dX5_readFrom_75 : decode cX5_readFrom 75 = .ok (.iadd, 1) := by decide +kernel
theorem dX5_readFrom_76 : decode cX5_readFrom 76 = .ok (.invokevirtual 52, 3) := by decide +kernel
theorem dX5_readFrom_79 : decode cX5_readFrom 79 = .ok (.invokevirtual 55, 3) := by decide +kernel
theorem dX5_readFrom_82 : decode cX5_readFrom 82 = .ok (.aload_n 0, 1) := by decide +kernel
theorem dX5_readFrom_83 : decode cX5_readFrom 83 = .ok (.dup, 1) := by decide +kernel
theorem dX5_readFrom_84 : decode cX5_readFrom 84 = .ok (.getfield 29, 3) := by decide +kernel
theorem dX5_readFrom_87 : decode cX5_readFrom 87 = .ok (.iconst 1, 1) := by decide +kernel
theorem dX5_readFrom_88 : decode cX5_readFrom 88 = .ok (.iadd, 1) := by decide +kernel
theorem dX5_readFrom_89 : decode cX5_readFrom 89 = .ok (.putfield 29, 3) := by decide +kernel
theorem dX5_readFrom_92 : decode cX5_readFrom 92 = .ok (.iinc 2 3, 3) := by decide +kernel
theorem dX5_readFrom_95 : decode cX5_readFrom 95 = .ok (.aload_n 1, 1) := by decide +kernel
theorem dX5_readFrom_96 : decode cX5_readFrom 96 = .ok (.getfield 43, 3) := by decide +kernel
theorem dX5_readFrom_99 : decode cX5_readFrom 99 = .ok (.iload_n 2, 1) := by decide +kernel
theorem dX5_readFrom_100 : decode cX5_readFrom 100 = .ok (.invokevirtual 48, 3) := by decide +kernel
theorem dX5_readFrom_103 : decode cX5_readFrom 103 = .ok (.bipush 100, 2) := by decide +kernel
theorem dX5_readFrom_105 : decode cX5_readFrom 105 = .ok (.if_icmp .ne 18, 3) := by decide +kernel
theorem dX5_readFrom_108 : decode cX5_readFrom 108 = .ok (.aload_n 0, 1) := by decide +kernel
theorem dX5_readFrom_109 : decode cX5_readFrom 109 = .ok (.dup, 1) := by decide +kernel
theorem dX5_readFrom_110 : decode cX5_readFrom 110 = .ok (.getfield 40, 3) := by decide +kernel
theorem dX5_readFrom_113 : decode cX5_readFrom 113 = .ok (.iconst 1, 1) := by decide +kernel
theorem dX5_readFrom_114 : decode cX5_readFrom 114 = .ok (.iload_n 3, 1) := by decide +kernel
theorem dX5_readFrom_115 : decode cX5_readFrom 115 = .ok (.ishl, 1) := by decide +kernel
theorem dX5_readFrom_116 : decode cX5_readFrom 116 = .ok (.ior, 1) := by decide +kernel
theorem dX5_readFrom_117 : decode cX5_readFrom 117 = .ok (.putfield 40, 3) := by decide +kernel
theorem dX5_readFrom_120 : decode cX5_readFrom 120 = .ok (.iinc 2 1, 3) := by decide +kernel
theorem dX5_readFrom_123 : decode cX5_readFrom 123 = .ok (.iinc 2 1, 3) := by decide +kernel
theorem dX5_readFrom_126 : decode cX5_readFrom 126 = .ok (.iinc 3 1, 3) := by decide +kernel
theorem dX5_readFrom_129 : decode cX5_readFrom 129 = .ok (.goto (-115), 3) := by decide +kernel
theorem dX5_readFrom_132 : decode cX5_readFrom 132 = .ok (.aload_n 0, 1) := by decide +kernel
theorem dX5_readFrom_133 : decode cX5_readFrom 133 = .ok (.aload_n 1, 1) := by decide +kernel
theorem dX5_readFrom_134 : decode cX5_readFrom 134 = .ok (.iload_n 2, 1) := by decide +kernel
theorem dX5_readFrom_135 : decode cX5_readFrom 135 = .ok (.invokevirtual 59, 3) := by decide +kernel
theorem dX5_readFrom_138 : decode cX5_readFrom 138 = .ok (.return_, 1) := by decide +kernel
set_option maxRecDepth 20000 in
theorem ggX5_readShafts_X8_fill : GoodIn wsX5_readShafts wsX8_fill := goodIn_r _ [8, 9, 34] (by decide +kernel) (by decide +kernel)
set_option maxRecDepth 20000 in
theorem gX5_readShafts_X8_fill : GoodIn wsX5_readShafts (wsV RX5 63 RX8 yX8_fill wsX8_fill) := goodIn_app (goodIn_of _ (by decide +kernel)) ggX5_readShafts_X8_fill
set_option maxRecDepth 20000 in
theorem ggX5_readShafts_X4_digit : GoodIn wsX5_readShafts wsX4_digit := goodIn_r _ [14, 15, 16, 17, 18, 7, 19, 9, 31, 32, 33, 34] (by decide +kernel) (by decide +kernel)
set_option maxRecDepth 20000 in
theorem gX5_readShafts_X4_digit : GoodIn wsX5_readShafts (wsV RX5 52 RX4 yX4_digit wsX4_digit) := goodIn_app (goodIn_of _ (by decide +kernel)) ggX5_readShafts_X4_digit
set_option maxRecDepth 20000 in
theorem ggX5_readShafts_X8_set : GoodIn wsX5_readShafts wsX8_set := goodIn_r _ [23, 9, 34] (by decide +kernel) (by decide +kernel)
set_option maxRecDepth 20000 in
theorem gX5_readShafts_X8_set : GoodIn wsX5_readShafts (wsV RX5 55 RX8 yX8_set wsX8_set) := goodIn_app (goodIn_of _ (by decide +kernel)) ggX5_readShafts_X8_set
theorem dX5_readShafts_0 : decode cX5_readShafts 0 = .ok (.aload_n 0, 1) := by decide +kernel
theorem dX5_readShafts_1 : decode cX5_readShafts 1 = .ok (.getfield 26, 3) := by decide +kernel
theorem dX5_readShafts_4 : decode cX5_readShafts 4 = .ok (.iconst (-1), 1) := by decide +kernel
theorem dX5_readShafts_5 : decode cX5_readShafts 5 = .ok (.invokevirtual 63, 3) := by decide +kernel
theorem dX5_readShafts_8 : decode cX5_readShafts 8 = .ok (.aload_n 0, 1) := by decide +kernel
theorem dX5_readShafts_9 : decode cX5_readShafts 9 = .ok (.iconst 0, 1) := by decide +kernel
theorem dX5_readShafts_10 : decode cX5_readShafts 10 = .ok (.putfield 33, 3) := by decide +kernel
theorem dX5_readShafts_13 : decode cX5_readShafts 13 = .ok (.iload_n 2, 1) := by decide +kernel
theorem dX5_readShafts_14 : decode cX5_readShafts 14 = .ok (.istore_n 3, 1) := by decide +kernel
theorem dX5_readShafts_15 : decode cX5_readShafts 15 = .ok (.iload_n 3, 1) := by decide +kernel
theorem dX5_readShafts_16 : decode cX5_readShafts 16 = .ok (.iconst 1, 1) := by decide +kernel
theorem dX5_readShafts_17 : decode cX5_readShafts 17 = .ok (.iadd, 1) := by decide +kernel
theorem dX5_readShafts_18 : decode cX5_readShafts 18 = .ok (.aload_n 1, 1) := by decide +kernel
theorem dX5_readShafts_19 : decode cX5_readShafts 19 = .ok (.getfield 66, 3) := by decide +kernel
theorem dX5_readShafts_22 : decode cX5_readShafts 22 = .ok (.if_icmp .ge 44, 3) := by decide +kernel
theorem dX5_readShafts_25 : decode cX5_readShafts 25 = .ok (.aload_n 0, 1) := by decide +kernel
theorem dX5_readShafts_26 : decode cX5_readShafts 26 = .ok (.getfield 26, 3) := by decide +kernel
theorem dX5_readShafts_29 : decode cX5_readShafts 29 = .ok (.aload_n 1, 1) := by decide +kernel
theorem dX5_readShafts_30 : decode cX5_readShafts 30 = .ok (.iload_n 3, 1) := by decide +kernel
theorem dX5_readShafts_31 : decode cX5_readShafts 31 = .ok (.invokevirtual 52, 3) := by decide +kernel
theorem dX5_readShafts_34 : decode cX5_readShafts 34 = .ok (.aload_n 1, 1) := by decide +kernel
theorem dX5_readShafts_35 : decode cX5_readShafts 35 = .ok (.iload_n 3, 1) := by decide +kernel
theorem dX5_readShafts_36 : decode cX5_readShafts 36 = .ok (.iconst 1, 1) := by decide +kernel
theorem dX5_readShafts_37 : decode cX5_readShafts 37 = .ok (.iadd, 1) := by decide +kernel
theorem dX5_readShafts_38 : decode cX5_readShafts 38 = .ok (.invokevirtual 52, 3) := by decide +kernel
theorem dX5_readShafts_41 : decode cX5_readShafts 41 = .ok (.invokevirtual 55, 3) := by decide +kernel
theorem dX5_readShafts_44 : decode cX5_readShafts 44 = .ok (.aload_n 0, 1) := by decide +kernel
theorem dX5_readShafts_45 : decode cX5_readShafts 45 = .ok (.dup, 1) := by decide +kernel
theorem dX5_readShafts_46 : decode cX5_readShafts 46 = .ok (.getfield 33, 3) := by decide +kernel
theorem dX5_readShafts_49 : decode cX5_readShafts 49 = .ok (.iconst 1, 1) := by decide +kernel
theorem dX5_readShafts_50 : decode cX5_readShafts 50 = .ok (.aload_n 1, 1) := by decide +kernel
theorem dX5_readShafts_51 : decode cX5_readShafts 51 = .ok (.iload_n 3, 1) := by decide +kernel
theorem dX5_readShafts_52 : decode cX5_readShafts 52 = .ok (.invokevirtual 52, 3) := by decide +kernel
theorem dX5_readShafts_55 : decode cX5_readShafts 55 = .ok (.ishl, 1) := by decide +kernel
theorem dX5_readShafts_56 : decode cX5_readShafts 56 = .ok (.ior, 1) := by decide +kernel
theorem dX5_readShafts_57 : decode cX5_readShafts 57 = .ok (.putfield 33, 3) := by decide +kernel
theorem dX5_readShafts_60 : decode cX5_readShafts 60 = .ok (.iinc 3 2, 3) := by decide +kernel
theorem dX5_readShafts_63 : decode cX5_readShafts 63 = .ok (.goto (-48), 3) := by decide +kernel
theorem dX5_readShafts_66 : decode cX5_readShafts 66 = .ok (.return_, 1) := by decide +kernel
set_option maxRecDepth 20000 in
theorem ggX5_shaftHeight_X8_get : GoodIn wsX5_shaftHeight wsX8_get := goodIn_r _ [6, 7, 15] (by decide +kernel) (by decide +kernel)
set_option maxRecDepth 20000 in
theorem gX5_shaftHeight_X8_get : GoodIn wsX5_shaftHeight (wsV RX5 48 RX8 yX8_get wsX8_get) := goodIn_app (goodIn_of _ (by decide +kernel)) ggX5_shaftHeight_X8_get
theorem dX5_shaftHeight_0 : decode cX5_shaftHeight 0 = .ok (.aload_n 0, 1) := by decide +kernel
theorem dX5_shaftHeight_1 : decode cX5_shaftHeight 1 = .ok (.getfield 26, 3) := by decide +kernel
theorem dX5_shaftHeight_4 : decode cX5_shaftHeight 4 = .ok (.iload_n 1, 1) := by decide +kernel
theorem dX5_shaftHeight_5 : decode cX5_shaftHeight 5 = .ok (.invokevirtual 48, 3) := by decide +kernel
theorem dX5_shaftHeight_8 : decode cX5_shaftHeight 8 = .ok (.istore_n 3, 1) := by decide +kernel
theorem dX5_shaftHeight_9 : decode cX5_shaftHeight 9 = .ok (.bipush 12, 2) := by decide +kernel
theorem dX5_shaftHeight_11 : decode cX5_shaftHeight 11 = .ok (.iload_n 2, 1) := by decide +kernel
theorem dX5_shaftHeight_12 : decode cX5_shaftHeight 12 = .ok (.ifCond .eq 10, 3) := by decide +kernel
theorem dX5_shaftHeight_15 : decode cX5_shaftHeight 15 = .ok (.bipush 9, 2) := by decide +kernel
theorem dX5_shaftHeight_17 : decode cX5_shaftHeight 17 = .ok (.iload_n 3, 1) := by decide +kernel
theorem dX5_shaftHeight_18 : decode cX5_shaftHeight 18 = .ok (.isub, 1) := by decide +kernel
theorem dX5_shaftHeight_19 : decode cX5_shaftHeight 19 = .ok (.goto 4, 3) := by decide +kernel
theorem dX5_shaftHeight_22 : decode cX5_shaftHeight 22 = .ok (.iload_n 3, 1) := by decide +kernel
theorem dX5_shaftHeight_23 : decode cX5_shaftHeight 23 = .ok (.imul, 1) := by decide +kernel
theorem dX5_shaftHeight_24 : decode cX5_shaftHeight 24 = .ok (.ireturn, 1) := by decide +kernel
set_option maxRecDepth 20000 in
theorem ggX5_isAt_X8_get : GoodIn wsX5_isAt wsX8_get := goodIn_r _ [7, 8, 16] (by decide +kernel) (by decide +kernel)
set_option maxRecDepth 20000 in
theorem gX5_isAt_X8_get : GoodIn wsX5_isAt (wsV RX5 48 RX8 yX8_get wsX8_get) := goodIn_app (goodIn_of _ (by decide +kernel)) ggX5_isAt_X8_get
theorem dX5_isAt_0 : decode cX5_isAt 0 = .ok (.aload_n 0, 1) := by decide +kernel
theorem dX5_isAt_1 : decode cX5_isAt 1 = .ok (.getfield 14, 3) := by decide +kernel
theorem dX5_isAt_4 : decode cX5_isAt 4 = .ok (.iload_n 1, 1) := by decide +kernel
theorem dX5_isAt_5 : decode cX5_isAt 5 = .ok (.invokevirtual 48, 3) := by decide +kernel
theorem dX5_isAt_8 : decode cX5_isAt 8 = .ok (.iload_n 2, 1) := by decide +kernel
theorem dX5_isAt_9 : decode cX5_isAt 9 = .ok (.if_icmp .eq 15, 3) := by decide +kernel
theorem dX5_isAt_12 : decode cX5_isAt 12 = .ok (.aload_n 0, 1) := by decide +kernel
theorem dX5_isAt_13 : decode cX5_isAt 13 = .ok (.getfield 20, 3) := by decide +kernel
theorem dX5_isAt_16 : decode cX5_isAt 16 = .ok (.iload_n 1, 1) := by decide +kernel
theorem dX5_isAt_17 : decode cX5_isAt 17 = .ok (.invokevirtual 48, 3) := by decide +kernel
theorem dX5_isAt_20 : decode cX5_isAt 20 = .ok (.iload_n 2, 1) := by decide +kernel
theorem dX5_isAt_21 : decode cX5_isAt 21 = .ok (.if_icmp .ne 7, 3) := by decide +kernel
theorem dX5_isAt_24 : decode cX5_isAt 24 = .ok (.iconst 1, 1) := by decide +kernel
theorem dX5_isAt_25 : decode cX5_isAt 25 = .ok (.goto 4, 3) := by decide +kernel
theorem dX5_isAt_28 : decode cX5_isAt 28 = .ok (.iconst 0, 1) := by decide +kernel
theorem dX5_isAt_29 : decode cX5_isAt 29 = .ok (.ireturn, 1) := by decide +kernel
set_option maxRecDepth 20000 in
theorem ggX5_otherEnd_X8_get : GoodIn wsX5_otherEnd wsX8_get := goodIn_r _ [7, 8, 16] (by decide +kernel) (by decide +kernel)
set_option maxRecDepth 20000 in
theorem gX5_otherEnd_X8_get : GoodIn wsX5_otherEnd (wsV RX5 48 RX8 yX8_get wsX8_get) := goodIn_app (goodIn_of _ (by decide +kernel)) ggX5_otherEnd_X8_get
theorem dX5_otherEnd_0 : decode cX5_otherEnd 0 = .ok (.aload_n 0, 1) := by decide +kernel
theorem dX5_otherEnd_1 : decode cX5_otherEnd 1 = .ok (.getfield 14, 3) := by decide +kernel
theorem dX5_otherEnd_4 : decode cX5_otherEnd 4 = .ok (.iload_n 1, 1) := by decide +kernel
theorem dX5_otherEnd_5 : decode cX5_otherEnd 5 = .ok (.invokevirtual 48, 3) := by decide +kernel
theorem dX5_otherEnd_8 : decode cX5_otherEnd 8 = .ok (.iload_n 2, 1) := by decide +kernel
theorem dX5_otherEnd_9 : decode cX5_otherEnd 9 = .ok (.if_icmp .ne 14, 3) := by decide +kernel
theorem dX5_otherEnd_12 : decode cX5_otherEnd 12 = .ok (.aload_n 0, 1) := by decide +kernel
theorem dX5_otherEnd_13 : decode cX5_otherEnd 13 = .ok (.getfield 20, 3) := by decide +kernel
theorem dX5_otherEnd_16 : decode cX5_otherEnd 16 = .ok (.iload_n 1, 1) := by decide +kernel
theorem dX5_otherEnd_17 : decode cX5_otherEnd 17 = .ok (.invokevirtual 48, 3) := by decide +kernel
theorem dX5_otherEnd_20 : decode cX5_otherEnd 20 = .ok (.goto 11, 3) := by decide +kernel
theorem dX5_otherEnd_23 : decode cX5_otherEnd 23 = .ok (.aload_n 0, 1) := by decide +kernel
theorem dX5_otherEnd_24 : decode cX5_otherEnd 24 = .ok (.getfield 14, 3) := by decide +kernel
theorem dX5_otherEnd_27 : decode cX5_otherEnd 27 = .ok (.iload_n 1, 1) := by decide +kernel
theorem dX5_otherEnd_28 : decode cX5_otherEnd 28 = .ok (.invokevirtual 48, 3) := by decide +kernel
theorem dX5_otherEnd_31 : decode cX5_otherEnd 31 = .ok (.ireturn, 1) := by decide +kernel
set_option maxRecDepth 20000 in
theorem ggX5_galleriesAt_X5_isAt : GoodIn wsX5_galleriesAt wsX5_isAt := goodIn_r _ [6, 7, 8, 9, 10, 11, 12, 13, 14, 15, 16, 17, 18, 19, 20, 21, 22] (by decide +kernel) (by decide +kernel)
set_option maxRecDepth 20000 in
theorem gX5_galleriesAt_X5_isAt : GoodIn wsX5_galleriesAt (wsV RX5 68 RX5 yX5_isAt wsX5_isAt) := goodIn_app (goodIn_of _ (by decide +kernel)) ggX5_galleriesAt_X5_isAt
theorem dX5_galleriesAt_0 : decode cX5_galleriesAt 0 = .ok (.iconst 0, 1) := by decide +kernel
theorem dX5_galleriesAt_1 : decode cX5_galleriesAt 1 = .ok (.istore_n 3, 1) := by decide +kernel
theorem dX5_galleriesAt_2 : decode cX5_galleriesAt 2 = .ok (.iconst 0, 1) := by decide +kernel
theorem dX5_galleriesAt_3 : decode cX5_galleriesAt 3 = .ok (.istore 4, 2) := by decide +kernel
theorem dX5_galleriesAt_5 : decode cX5_galleriesAt 5 = .ok (.iload 4, 2) := by decide +kernel
theorem dX5_galleriesAt_7 : decode cX5_galleriesAt 7 = .ok (.aload_n 0, 1) := by decide +kernel
theorem dX5_galleriesAt_8 : decode cX5_galleriesAt 8 = .ok (.getfield 29, 3) := by decide +kernel
theorem dX5_galleriesAt_11 : decode cX5_galleriesAt 11 = .ok (.if_icmp .ge 28, 3) := by decide +kernel
theorem dX5_galleriesAt_14 : decode cX5_galleriesAt 14 = .ok (.aload_n 0, 1) := by decide +kernel
theorem dX5_galleriesAt_15 : decode cX5_galleriesAt 15 = .ok (.iload 4, 2) := by decide +kernel
theorem dX5_galleriesAt_17 : decode cX5_galleriesAt 17 = .ok (.iload_n 1, 1) := by decide +kernel
theorem dX5_galleriesAt_18 : decode cX5_galleriesAt 18 = .ok (.invokevirtual 68, 3) := by decide +kernel
theorem dX5_galleriesAt_21 : decode cX5_galleriesAt 21 = .ok (.ifCond .eq 12, 3) := by decide +kernel
theorem dX5_galleriesAt_24 : decode cX5_galleriesAt 24 = .ok (.iload_n 3, 1) := by decide +kernel
theorem dX5_galleriesAt_25 : decode cX5_galleriesAt 25 = .ok (.iload_n 2, 1) := by decide +kernel
theorem dX5_galleriesAt_26 : decode cX5_galleriesAt 26 = .ok (.iconst 1, 1) := by decide +kernel
theorem dX5_galleriesAt_27 : decode cX5_galleriesAt 27 = .ok (.iload 4, 2) := by decide +kernel
theorem dX5_galleriesAt_29 : decode cX5_galleriesAt 29 = .ok (.ishl, 1) := by decide +kernel
theorem dX5_galleriesAt_30 : decode cX5_galleriesAt 30 = .ok (.iand, 1) := by decide +kernel
theorem dX5_galleriesAt_31 : decode cX5_galleriesAt 31 = .ok (.ior, 1) := by decide +kernel
theorem dX5_galleriesAt_32 : decode cX5_galleriesAt 32 = .ok (.istore_n 3, 1) := by decide +kernel
theorem dX5_galleriesAt_33 : decode cX5_galleriesAt 33 = .ok (.iinc 4 1, 3) := by decide +kernel
theorem dX5_galleriesAt_36 : decode cX5_galleriesAt 36 = .ok (.goto (-31), 3) := by decide +kernel
theorem dX5_galleriesAt_39 : decode cX5_galleriesAt 39 = .ok (.iload_n 3, 1) := by decide +kernel
theorem dX5_galleriesAt_40 : decode cX5_galleriesAt 40 = .ok (.ireturn, 1) := by decide +kernel
theorem dX6_init_0 : decode cX6_init 0 = .ok (.aload_n 0, 1) := by decide +kernel
theorem dX6_init_1 : decode cX6_init 1 = .ok (.invokespecial 3, 3) := by decide +kernel
theorem dX6_init_4 : decode cX6_init 4 = .ok (.return_, 1) := by decide +kernel
theorem dX6_start_0 : decode cX6_start 0 = .ok (.aload_n 0, 1) := by decide +kernel
theorem dX6_start_1 : decode cX6_start 1 = .ok (.iconst 0, 1) := by decide +kernel
theorem dX6_start_2 : decode cX6_start 2 = .ok (.putfield 11, 3) := by decide +kernel
theorem dX6_start_5 : decode cX6_start 5 = .ok (.aload_n 0, 1) := by decide +kernel
theorem dX6_start_6 : decode cX6_start 6 = .ok (.iconst 0, 1) := by decide +kernel
theorem dX6_start_7 : decode cX6_start 7 = .ok (.putfield 15, 3) := by decide +kernel
theorem dX6_start_10 : decode cX6_start 10 = .ok (.aload_n 0, 1) := by decide +kernel
theorem dX6_start_11 : decode cX6_start 11 = .ok (.iconst 0, 1) := by decide +kernel
theorem dX6_start_12 : decode cX6_start 12 = .ok (.putfield 18, 3) := by decide +kernel
theorem dX6_start_15 : decode cX6_start 15 = .ok (.return_, 1) := by decide +kernel
set_option maxRecDepth 20000 in
theorem ggX6_takes_X10_isKnot : GoodIn wsX6_takes wsX10_isKnot := goodIn_r _ [6] (by decide +kernel) (by decide +kernel)
set_option maxRecDepth 20000 in
theorem gX6_takes_X10_isKnot_n24 : GoodIn wsX6_takes (wsX10_isKnot) := ggX6_takes_X10_isKnot
set_option maxRecDepth 20000 in
theorem ggX6_takes_X6_takesBreak : GoodIn wsX6_takes wsX6_takesBreak := goodIn_r _ [11, 1, 3, 19, 20, 21, 22] (by decide +kernel) (by decide +kernel)
set_option maxRecDepth 20000 in
theorem gX6_takes_X6_takesBreak : GoodIn wsX6_takes (wsV RX6 28 RX6 yX6_takesBreak wsX6_takesBreak) := goodIn_app (goodIn_of _ (by decide +kernel)) ggX6_takes_X6_takesBreak
set_option maxRecDepth 20000 in
theorem ggX6_takes_X6_takesShaft : GoodIn wsX6_takes wsX6_takesShaft := goodIn_r _ [15, 16, 1, 4, 5, 6, 17, 18, 19, 20, 21, 22] (by decide +kernel) (by decide +kernel)
set_option maxRecDepth 20000 in
theorem gX6_takes_X6_takesShaft : GoodIn wsX6_takes (wsV RX6 31 RX6 yX6_takesShaft wsX6_takesShaft) := goodIn_app (goodIn_of _ (by decide +kernel)) ggX6_takes_X6_takesShaft
theorem dX6_takes_0 : decode cX6_takes 0 = .ok (.aload_n 0, 1) := by decide +kernel
theorem dX6_takes_1 : decode cX6_takes 1 = .ok (.getfield 11, 3) := by decide +kernel
theorem dX6_takes_4 : decode cX6_takes 4 = .ok (.tableswitch 160 0 5 #[40, 58, 87, 120, 145, 151], 40) := by decide +kernel
theorem dX6_takes_44 : decode cX6_takes 44 = .ok (.aload_n 0, 1) := by decide +kernel
theorem dX6_takes_45 : decode cX6_takes 45 = .ok (.iload_n 1, 1) := by decide +kernel
theorem dX6_takes_46 : decode cX6_takes 46 = .ok (.putfield 21, 3) := by decide +kernel
theorem dX6_takes_49 : decode cX6_takes 49 = .ok (.aload_n 0, 1) := by decide +kernel
theorem dX6_takes_50 : decode cX6_takes 50 = .ok (.iconst 1, 1) := by decide +kernel
theorem dX6_takes_51 : decode cX6_takes 51 = .ok (.putfield 11, 3) := by decide +kernel
theorem dX6_takes_54 : decode cX6_takes 54 = .ok (.iload_n 1, 1) := by decide +kernel
theorem dX6_takes_55 : decode cX6_takes 55 = .ok (.bipush 48, 2) := by decide +kernel
theorem dX6_takes_57 : decode cX6_takes 57 = .ok (.isub, 1) := by decide +kernel
theorem dX6_takes_58 : decode cX6_takes 58 = .ok (.invokestatic 24, 3) := by decide +kernel
theorem dX6_takes_61 : decode cX6_takes 61 = .ok (.ireturn, 1) := by decide +kernel
theorem dX6_takes_62 : decode cX6_takes 62 = .ok (.aload_n 0, 1) := by decide +kernel
theorem dX6_takes_63 : decode cX6_takes 63 = .ok (.iconst 2, 1) := by decide +kernel
theorem dX6_takes_64 : decode cX6_takes 64 = .ok (.putfield 11, 3) := by decide +kernel
theorem dX6_takes_67 : decode cX6_takes 67 = .ok (.iload_n 1, 1) := by decide +kernel
theorem dX6_takes_68 : decode cX6_takes 68 = .ok (.bipush 48, 2) := by decide +kernel
theorem dX6_takes_70 : decode cX6_takes 70 = .ok (.isub, 1) := by decide +kernel
theorem dX6_takes_71 : decode cX6_takes 71 = .ok (.invokestatic 24, 3) := by decide +kernel
theorem dX6_takes_74 : decode cX6_takes 74 = .ok (.ifCond .eq 15, 3) := by decide +kernel
theorem dX6_takes_77 : decode cX6_takes 77 = .ok (.iload_n 1, 1) := by decide +kernel
theorem dX6_takes_78 : decode cX6_takes 78 = .ok (.aload_n 0, 1) := by decide +kernel
theorem dX6_takes_79 : decode cX6_takes 79 = .ok (.getfield 21, 3) := by decide +kernel
theorem dX6_takes_82 : decode cX6_takes 82 = .ok (.if_icmp .eq 7, 3) := by decide +kernel
theorem dX6_takes_85 : decode cX6_takes 85 = .ok (.iconst 1, 1) := by decide +kernel
theorem dX6_takes_86 : decode cX6_takes 86 = .ok (.goto 4, 3) := by decide +kernel
theorem dX6_takes_89 : decode cX6_takes 89 = .ok (.iconst 0, 1) := by decide +kernel
theorem dX6_takes_90 : decode cX6_takes 90 = .ok (.ireturn, 1) := by decide +kernel
theorem dX6_takes_91 : decode cX6_takes 91 = .ok (.aload_n 0, 1) := by decide +kernel
theorem dX6_takes_92 : decode cX6_takes 92 = .ok (.dup, 1) := by decide +kernel
theorem dX6_takes_93 : decode cX6_takes 93 = .ok (.getfield 15, 3) := by decide +kernel
theorem dX6_takes_96 : decode cX6_takes 96 = .ok (.iconst 1, 1) := by decide +kernel
theorem dX6_takes_97 : decode cX6_takes 97 = .ok (.iadd, 1) := by decide +kernel
theorem dX6_takes_98 : decode cX6_takes 98 = .ok (.putfield 15, 3) := by decide +kernel
theorem dX6_takes_101 : decode cX6_takes 101 = .ok (.aload_n 0, 1) := by decide +kernel
theorem dX6_takes_102 : decode cX6_takes 102 = .ok (.iconst 3, 1) := by decide +kernel
theorem dX6_takes_103 : decode cX6_takes 103 = .ok (.putfield 11, 3) := by decide +kernel
theorem dX6_takes_106 : decode cX6_takes 106 = .ok (.iload_n 1, 1) := by decide +kernel
theorem dX6_takes_107 : decode cX6_takes 107 = .ok (.bipush 49, 2) := by decide +kernel
theorem dX6_takes_109 : decode cX6_takes 109 = .ok (.if_icmp .lt 13, 3) := by decide +kernel
theorem dX6_takes_112 : decode cX6_takes 112 = .ok (.iload_n 1, 1) := by decide +kernel
theorem dX6_takes_113 : decode cX6_takes 113 = .ok (.bipush 57, 2) := by decide +kernel
theorem dX6_takes_115 : decode cX6_takes 115 = .ok (.if_icmp .gt 7, 3) := by decide +kernel
theorem dX6_takes_118 : decode cX6_takes 118 = .ok (.iconst 1, 1) := by decide +kernel
theorem dX6_takes_119 : decode cX6_takes 119 = .ok (.goto 4, 3) := by decide +kernel
theorem dX6_takes_122 : decode cX6_takes 122 = .ok (.iconst 0, 1) := by decide +kernel
theorem dX6_takes_123 : decode cX6_takes 123 = .ok (.ireturn, 1) := by decide +kernel
theorem dX6_takes_124 : decode cX6_takes 124 = .ok (.aload_n 0, 1) := by decide +kernel
theorem dX6_takes_125 : decode cX6_takes 125 = .ok (.iconst 4, 1) := by decide +kernel
theorem dX6_takes_126 : decode cX6_takes 126 = .ok (.putfield 11, 3) := by decide +kernel
theorem dX6_takes_129 : decode cX6_takes 129 = .ok (.iload_n 1, 1) := by decide +kernel
theorem dX6_takes_130 : decode cX6_takes 130 = .ok (.bipush 100, 2) := by decide +kernel
theorem dX6_takes_132 : decode cX6_takes 132 = .ok (.if_icmp .eq 11, 3) := by decide +kernel
theorem dX6_takes_135 : decode cX6_takes 135 = .ok (.aload_n 0, 1) := by decide +kernel
theorem dX6_takes_136 : decode cX6_takes 136 = .ok (.iload_n 1, 1) := by decide +kernel
theorem dX6_takes_137 : decode cX6_takes 137 = .ok (.invokevirtual 28, 3) := by decide +kernel
theorem dX6_takes_140 : decode cX6_takes 140 = .ok (.ifCond .eq 7, 3) := by decide +kernel
theorem dX6_takes_143 : decode cX6_takes 143 = .ok (.iconst 1, 1) := by decide +kernel
theorem dX6_takes_144 : decode cX6_takes 144 = .ok (.goto 4, 3) := by decide +kernel
theorem dX6_takes_147 : decode cX6_takes 147 = .ok (.iconst 0, 1) := by decide +kernel
theorem dX6_takes_148 : decode cX6_takes 148 = .ok (.ireturn, 1) := by decide +kernel
theorem dX6_takes_149 : decode cX6_takes 149 = .ok (.aload_n 0, 1) := by decide +kernel
theorem dX6_takes_150 : decode cX6_takes 150 = .ok (.iload_n 1, 1) := by decide +kernel
theorem dX6_takes_151 : decode cX6_takes 151 = .ok (.invokevirtual 28, 3) := by decide +kernel
theorem dX6_takes_154 : decode cX6_takes 154 = .ok (.ireturn, 1) := by decide +kernel
theorem dX6_takes_155 : decode cX6_takes 155 = .ok (.aload_n 0, 1) := by decide +kernel
theorem dX6_takes_156 : decode cX6_takes 156 = .ok (.iload_n 1, 1) := by decide +kernel
theorem dX6_takes_157 : decode cX6_takes 157 = .ok (.bipush 48, 2) := by decide +kernel
theorem dX6_takes_159 : decode cX6_takes 159 = .ok (.isub, 1) := by decide +kernel
theorem dX6_takes_160 : decode cX6_takes 160 = .ok (.invokevirtual 31, 3) := by decide +kernel
theorem dX6_takes_163 : decode cX6_takes 163 = .ok (.ireturn, 1) := by decide +kernel
theorem dX6_takes_164 : decode cX6_takes 164 = .ok (.aload_n 0, 1) := by decide +kernel
theorem dX6_takes_165 : decode cX6_takes 165 = .ok (.iconst 5, 1) := by decide +kernel
theorem dX6_takes_166 : decode cX6_takes 166 = .ok (.putfield 11, 3) := by decide +kernel
theorem dX6_takes_169 : decode cX6_takes 169 = .ok (.iload_n 1, 1) := by decide +kernel
theorem dX6_takes_170 : decode cX6_takes 170 = .ok (.bipush 48, 2) := by decide +kernel
theorem dX6_takes_172 : decode cX6_takes 172 = .ok (.if_icmp .lt 13, 3) := by decide +kernel
theorem dX6_takes_175 : decode cX6_takes 175 = .ok (.iload_n 1, 1) := by decide +kernel
theorem dX6_takes_176 : decode cX6_takes 176 = .ok (.bipush 57, 2) := by decide +kernel
theorem dX6_takes_178 : decode cX6_takes 178 = .ok (.if_icmp .gt 7, 3) := by decide +kernel
theorem dX6_takes_181 : decode cX6_takes 181 = .ok (.iconst 1, 1) := by decide +kernel
theorem dX6_takes_182 : decode cX6_takes 182 = .ok (.goto 4, 3) := by decide +kernel
theorem dX6_takes_185 : decode cX6_takes 185 = .ok (.iconst 0, 1) := by decide +kernel
theorem dX6_takes_186 : decode cX6_takes 186 = .ok (.ireturn, 1) := by decide +kernel
set_option maxRecDepth 20000 in
theorem ggX6_mayEnd_J6_bitCount_0f7a4 : GoodIn wsX6_mayEnd wsJ6_bitCount_0f7a4 := goodIn_r _ [6, 7, 8, 9] (by decide +kernel) (by decide +kernel)
set_option maxRecDepth 20000 in
theorem gX6_mayEnd_J6_bitCount_0f7a4 : GoodIn wsX6_mayEnd (va_wsS RX6 34 yJ6_bitCount_0f7a4 wsJ6_bitCount_0f7a4) := goodIn_app (goodIn_of _ (by decide +kernel)) ggX6_mayEnd_J6_bitCount_0f7a4
theorem dX6_mayEnd_0 : decode cX6_mayEnd 0 = .ok (.aload_n 0, 1) := by decide +kernel
theorem dX6_mayEnd_1 : decode cX6_mayEnd 1 = .ok (.getfield 11, 3) := by decide +kernel
theorem dX6_mayEnd_4 : decode cX6_mayEnd 4 = .ok (.iconst 5, 1) := by decide +kernel
theorem dX6_mayEnd_5 : decode cX6_mayEnd 5 = .ok (.if_icmp .ne 18, 3) := by decide +kernel
theorem dX6_mayEnd_8 : decode cX6_mayEnd 8 = .ok (.aload_n 0, 1) := by decide +kernel
theorem dX6_mayEnd_9 : decode cX6_mayEnd 9 = .ok (.getfield 18, 3) := by decide +kernel
theorem dX6_mayEnd_12 : decode cX6_mayEnd 12 = .ok (.invokestatic 34, 3) := by decide +kernel
theorem dX6_mayEnd_15 : decode cX6_mayEnd 15 = .ok (.iconst 2, 1) := by decide +kernel
theorem dX6_mayEnd_16 : decode cX6_mayEnd 16 = .ok (.if_icmp .lt 7, 3) := by decide +kernel
theorem dX6_mayEnd_19 : decode cX6_mayEnd 19 = .ok (.iconst 1, 1) := by decide +kernel
theorem dX6_mayEnd_20 : decode cX6_mayEnd 20 = .ok (.goto 4, 3) := by decide +kernel
theorem dX6_mayEnd_23 : decode cX6_mayEnd 23 = .ok (.iconst 0, 1) := by decide +kernel
theorem dX6_mayEnd_24 : decode cX6_mayEnd 24 = .ok (.ireturn, 1) := by decide +kernel
theorem dX6_takesBreak_0 : decode cX6_takesBreak 0 = .ok (.aload_n 0, 1) := by decide +kernel
theorem dX6_takesBreak_1 : decode cX6_takesBreak 1 = .ok (.iload_n 1, 1) := by decide +kernel
theorem dX6_takesBreak_2 : decode cX6_takesBreak 2 = .ok (.bipush 59, 2) := by decide +kernel
theorem dX6_takesBreak_4 : decode cX6_takesBreak 4 = .ok (.if_icmp .ne 7, 3) := by decide +kernel
theorem dX6_takesBreak_7 : decode cX6_takesBreak 7 = .ok (.iconst 5, 1) := by decide +kernel
theorem dX6_takesBreak_8 : decode cX6_takesBreak 8 = .ok (.goto 4, 3) := by decide +kernel
theorem dX6_takesBreak_11 : decode cX6_takesBreak 11 = .ok (.iconst 0, 1) := by decide +kernel
theorem dX6_takesBreak_12 : decode cX6_takesBreak 12 = .ok (.putfield 11, 3) := by decide +kernel
theorem dX6_takesBreak_15 : decode cX6_takesBreak 15 = .ok (.iload_n 1, 1) := by decide +kernel
theorem dX6_takesBreak_16 : decode cX6_takesBreak 16 = .ok (.bipush 59, 2) := by decide +kernel
theorem dX6_takesBreak_18 : decode cX6_takesBreak 18 = .ok (.if_icmp .eq 18, 3) := by decide +kernel
theorem dX6_takesBreak_21 : decode cX6_takesBreak 21 = .ok (.iload_n 1, 1) := by decide +kernel
theorem dX6_takesBreak_22 : decode cX6_takesBreak 22 = .ok (.bipush 44, 2) := by decide +kernel
theorem dX6_takesBreak_24 : decode cX6_takesBreak 24 = .ok (.if_icmp .ne 16, 3) := by decide +kernel
theorem dX6_takesBreak_27 : decode cX6_takesBreak 27 = .ok (.aload_n 0, 1) := by decide +kernel
theorem dX6_takesBreak_28 : decode cX6_takesBreak 28 = .ok (.getfield 15, 3) := by decide +kernel
theorem dX6_takesBreak_31 : decode cX6_takesBreak 31 = .ok (.bipush 10, 2) := by decide +kernel
theorem dX6_takesBreak_33 : decode cX6_takesBreak 33 = .ok (.if_icmp .ge 7, 3) := by decide +kernel
theorem dX6_takesBreak_36 : decode cX6_takesBreak 36 = .ok (.iconst 1, 1) := by decide +kernel
theorem dX6_takesBreak_37 : decode cX6_takesBreak 37 = .ok (.goto 4, 3) := by decide +kernel
theorem dX6_takesBreak_40 : decode cX6_takesBreak 40 = .ok (.iconst 0, 1) := by decide +kernel
theorem dX6_takesBreak_41 : decode cX6_takesBreak 41 = .ok (.ireturn, 1) := by decide +kernel
set_option maxRecDepth 20000 in
theorem ggX6_takesShaft_X10_isKnot : GoodIn wsX6_takesShaft wsX10_isKnot := goodIn_r _ [5] (by decide +kernel) (by decide +kernel)
set_option maxRecDepth 20000 in
theorem gX6_takesShaft_X10_isKnot_n24 : GoodIn wsX6_takesShaft (wsX10_isKnot) := ggX6_takesShaft_X10_isKnot
set_option maxRecDepth 20000 in
theorem ggX6_takesShaft_X10_bit : GoodIn wsX6_takesShaft wsX10_bit := goodIn_r _ [7] (by decide +kernel) (by decide +kernel)
set_option maxRecDepth 20000 in
theorem gX6_takesShaft_X10_bit_n40 : GoodIn wsX6_takesShaft (wsX10_bit) := ggX6_takesShaft_X10_bit
theorem dX6_takesShaft_0 : decode cX6_takesShaft 0 = .ok (.iload_n 1, 1) := by decide +kernel
theorem dX6_takesShaft_1 : decode cX6_takesShaft 1 = .ok (.invokestatic 24, 3) := by decide +kernel
theorem dX6_takesShaft_4 : decode cX6_takesShaft 4 = .ok (.ifCond .eq 15, 3) := by decide +kernel
theorem dX6_takesShaft_7 : decode cX6_takesShaft 7 = .ok (.aload_n 0, 1) := by decide +kernel
theorem dX6_takesShaft_8 : decode cX6_takesShaft 8 = .ok (.getfield 18, 3) := by decide +kernel
theorem dX6_takesShaft_11 : decode cX6_takesShaft 11 = .ok (.iload_n 1, 1) := by decide +kernel
theorem dX6_takesShaft_12 : decode cX6_takesShaft 12 = .ok (.invokestatic 40, 3) := by decide +kernel
theorem dX6_takesShaft_15 : decode cX6_takesShaft 15 = .ok (.iconst 1, 1) := by decide +kernel
theorem dX6_takesShaft_16 : decode cX6_takesShaft 16 = .ok (.if_icmp .ne 5, 3) := by decide +kernel
theorem dX6_takesShaft_19 : decode cX6_takesShaft 19 = .ok (.iconst 0, 1) := by decide +kernel
theorem dX6_takesShaft_20 : decode cX6_takesShaft 20 = .ok (.ireturn, 1) := by decide +kernel
theorem dX6_takesShaft_21 : decode cX6_takesShaft 21 = .ok (.aload_n 0, 1) := by decide +kernel
theorem dX6_takesShaft_22 : decode cX6_takesShaft 22 = .ok (.dup, 1) := by decide +kernel
theorem dX6_takesShaft_23 : decode cX6_takesShaft 23 = .ok (.getfield 18, 3) := by decide +kernel
theorem dX6_takesShaft_26 : decode cX6_takesShaft 26 = .ok (.iconst 1, 1) := by decide +kernel
theorem dX6_takesShaft_27 : decode cX6_takesShaft 27 = .ok (.iload_n 1, 1) := by decide +kernel
theorem dX6_takesShaft_28 : decode cX6_takesShaft 28 = .ok (.ishl, 1) := by decide +kernel
theorem dX6_takesShaft_29 : decode cX6_takesShaft 29 = .ok (.ior, 1) := by decide +kernel
theorem dX6_takesShaft_30 : decode cX6_takesShaft 30 = .ok (.putfield 18, 3) := by decide +kernel
theorem dX6_takesShaft_33 : decode cX6_takesShaft 33 = .ok (.aload_n 0, 1) := by decide +kernel
theorem dX6_takesShaft_34 : decode cX6_takesShaft 34 = .ok (.bipush 6, 2) := by decide +kernel
theorem dX6_takesShaft_36 : decode cX6_takesShaft 36 = .ok (.putfield 11, 3) := by decide +kernel
theorem dX6_takesShaft_39 : decode cX6_takesShaft 39 = .ok (.iconst 1, 1) := by decide +kernel
theorem dX6_takesShaft_40 : decode cX6_takesShaft 40 = .ok (.ireturn, 1) := by decide +kernel
set_option maxRecDepth 20000 in
theorem ggX7_init_X8_init : GoodIn wsX7_init wsX8_init := goodIn_r _ [15, 16, 2, 3, 17, 18, 25] (by decide +kernel) (by decide +kernel)
set_option maxRecDepth 20000 in
theorem gX7_init_X8_init : GoodIn wsX7_init (wsX8_init) := ggX7_init_X8_init
set_option maxRecDepth 20000 in
theorem ggX7_init_X9_init : GoodIn wsX7_init wsX9_init := goodIn_r _ [20, 21, 2, 3, 22, 5, 6, 23, 24, 14, 15, 16, 17, 18, 25, 31] (by decide +kernel) (by decide +kernel)
set_option maxRecDepth 20000 in
theorem gX7_init_X9_init_n25 : GoodIn wsX7_init (wsX9_init) := ggX7_init_X9_init
theorem dX7_init_0 : decode cX7_init 0 = .ok (.aload_n 0, 1) := by decide +kernel
theorem dX7_init_1 : decode cX7_init 1 = .ok (.invokespecial 3, 3) := by decide +kernel
theorem dX7_init_4 : decode cX7_init 4 = .ok (.aload_n 0, 1) := by decide +kernel
theorem dX7_init_5 : decode cX7_init 5 = .ok (.new 9, 3) := by decide +kernel
theorem dX7_init_8 : decode cX7_init 8 = .ok (.dup, 1) := by decide +kernel
theorem dX7_init_9 : decode cX7_init 9 = .ok (.iconst 5, 1) := by decide +kernel
theorem dX7_init_10 : decode cX7_init 10 = .ok (.invokespecial 11, 3) := by decide +kernel
theorem dX7_init_13 : decode cX7_init 13 = .ok (.putfield 14, 3) := by decide +kernel
theorem dX7_init_16 : decode cX7_init 16 = .ok (.aload_n 0, 1) := by decide +kernel
theorem dX7_init_17 : decode cX7_init 17 = .ok (.new 9, 3) := by decide +kernel
theorem dX7_init_20 : decode cX7_init 20 = .ok (.dup, 1) := by decide +kernel
theorem dX7_init_21 : decode cX7_init 21 = .ok (.iconst 5, 1) := by decide +kernel
theorem dX7_init_22 : decode cX7_init 22 = .ok (.invokespecial 11, 3) := by decide +kernel
theorem dX7_init_25 : decode cX7_init 25 = .ok (.putfield 20, 3) := by decide +kernel
theorem dX7_init_28 : decode cX7_init 28 = .ok (.aload_n 0, 1) := by decide +kernel
theorem dX7_init_29 : decode cX7_init 29 = .ok (.new 23, 3) := by decide +kernel
theorem dX7_init_32 : decode cX7_init 32 = .ok (.dup, 1) := by decide +kernel
theorem dX7_init_33 : decode cX7_init 33 = .ok (.invokespecial 25, 3) := by decide +kernel
theorem dX7_init_36 : decode cX7_init 36 = .ok (.putfield 26, 3) := by decide +kernel
theorem dX7_init_39 : decode cX7_init 39 = .ok (.return_, 1) := by decide +kernel
theorem dX8_init_0 : decode cX8_init 0 = .ok (.aload_n 0, 1) := by decide +kernel
theorem dX8_init_1 : decode cX8_init 1 = .ok (.invokespecial 1, 3) := by decide +kernel
theorem dX8_init_4 : decode cX8_init 4 = .ok (.aload_n 0, 1) := by decide +kernel
theorem dX8_init_5 : decode cX8_init 5 = .ok (.iload_n 1, 1) := by decide +kernel
theorem dX8_init_6 : decode cX8_init 6 = .ok (.ifCond .le 7, 3) := by decide +kernel
theorem dX8_init_9 : decode cX8_init 9 = .ok (.iload_n 1, 1) := by decide +kernel
theorem dX8_init_10 : decode cX8_init 10 = .ok (.goto 4, 3) := by decide +kernel
theorem dX8_init_13 : decode cX8_init 13 = .ok (.iconst 0, 1) := by decide +kernel
theorem dX8_init_14 : decode cX8_init 14 = .ok (.newarray .int, 2) := by decide +kernel
theorem dX8_init_16 : decode cX8_init 16 = .ok (.putfield 7, 3) := by decide +kernel
theorem dX8_init_19 : decode cX8_init 19 = .ok (.return_, 1) := by decide +kernel
theorem dX8_get_0 : decode cX8_get 0 = .ok (.iload_n 1, 1) := by decide +kernel
theorem dX8_get_1 : decode cX8_get 1 = .ok (.ifCond .lt 21, 3) := by decide +kernel
theorem dX8_get_4 : decode cX8_get 4 = .ok (.iload_n 1, 1) := by decide +kernel
theorem dX8_get_5 : decode cX8_get 5 = .ok (.aload_n 0, 1) := by decide +kernel
theorem dX8_get_6 : decode cX8_get 6 = .ok (.getfield 7, 3) := by decide +kernel
theorem dX8_get_9 : decode cX8_get 9 = .ok (.arraylength, 1) := by decide +kernel
theorem dX8_get_10 : decode cX8_get 10 = .ok (.if_icmp .ge 12, 3) := by decide +kernel
theorem dX8_get_13 : decode cX8_get 13 = .ok (.aload_n 0, 1) := by decide +kernel
theorem dX8_get_14 : decode cX8_get 14 = .ok (.getfield 7, 3) := by decide +kernel
theorem dX8_get_17 : decode cX8_get 17 = .ok (.iload_n 1, 1) := by decide +kernel
theorem dX8_get_18 : decode cX8_get 18 = .ok (.iaload, 1) := by decide +kernel
theorem dX8_get_19 : decode cX8_get 19 = .ok (.goto 4, 3) := by decide +kernel
theorem dX8_get_22 : decode cX8_get 22 = .ok (.iconst 0, 1) := by decide +kernel
theorem dX8_get_23 : decode cX8_get 23 = .ok (.ireturn, 1) := by decide +kernel
theorem dX8_set_0 : decode cX8_set 0 = .ok (.iload_n 1, 1) := by decide +kernel
theorem dX8_set_1 : decode cX8_set 1 = .ok (.ifCond .lt 19, 3) := by decide +kernel
theorem dX8_set_4 : decode cX8_set 4 = .ok (.iload_n 1, 1) := by decide +kernel
theorem dX8_set_5 : decode cX8_set 5 = .ok (.aload_n 0, 1) := by decide +kernel
theorem dX8_set_6 : decode cX8_set 6 = .ok (.getfield 7, 3) := by decide +kernel
theorem dX8_set_9 : decode cX8_set 9 = .ok (.arraylength, 1) := by decide +kernel
theorem dX8_set_10 : decode cX8_set 10 = .ok (.if_icmp .ge 10, 3) := by decide +kernel
theorem dX8_set_13 : decode cX8_set 13 = .ok (.aload_n 0, 1) := by decide +kernel
theorem dX8_set_14 : decode cX8_set 14 = .ok (.getfield 7, 3) := by decide +kernel
theorem dX8_set_17 : decode cX8_set 17 = .ok (.iload_n 1, 1) := by decide +kernel
theorem dX8_set_18 : decode cX8_set 18 = .ok (.iload_n 2, 1) := by decide +kernel
theorem dX8_set_19 : decode cX8_set 19 = .ok (.iastore, 1) := by decide +kernel
theorem dX8_set_20 : decode cX8_set 20 = .ok (.return_, 1) := by decide +kernel
theorem dX8_fill_0 : decode cX8_fill 0 = .ok (.iconst 0, 1) := by decide +kernel
theorem dX8_fill_1 : decode cX8_fill 1 = .ok (.istore_n 2, 1) := by decide +kernel
theorem dX8_fill_2 : decode cX8_fill 2 = .ok (.iload_n 2, 1) := by decide +kernel
theorem dX8_fill_3 : decode cX8_fill 3 = .ok (.aload_n 0, 1) := by decide +kernel
theorem dX8_fill_4 : decode cX8_fill 4 = .ok (.getfield 7, 3) := by decide +kernel
theorem dX8_fill_7 : decode cX8_fill 7 = .ok (.arraylength, 1) := by decide +kernel
theorem dX8_fill_8 : decode cX8_fill 8 = .ok (.if_icmp .ge 16, 3) := by decide +kernel
theorem dX8_fill_11 : decode cX8_fill 11 = .ok (.aload_n 0, 1) := by decide +kernel
theorem dX8_fill_12 : decode cX8_fill 12 = .ok (.getfield 7, 3) := by decide +kernel
theorem dX8_fill_15 : decode cX8_fill 15 = .ok (.iload_n 2, 1) := by decide +kernel
theorem dX8_fill_16 : decode cX8_fill 16 = .ok (.iload_n 1, 1) := by decide +kernel
theorem dX8_fill_17 : decode cX8_fill 17 = .ok (.iastore, 1) := by decide +kernel
theorem dX8_fill_18 : decode cX8_fill 18 = .ok (.iinc 2 1, 3) := by decide +kernel
theorem dX8_fill_21 : decode cX8_fill 21 = .ok (.goto (-19), 3) := by decide +kernel
theorem dX8_fill_24 : decode cX8_fill 24 = .ok (.return_, 1) := by decide +kernel
set_option maxRecDepth 20000 in
theorem ggX8_copyFrom_X8_get : GoodIn wsX8_copyFrom wsX8_get := goodIn_r _ [6, 1, 7] (by decide +kernel) (by decide +kernel)
set_option maxRecDepth 20000 in
theorem gX8_copyFrom_X8_get : GoodIn wsX8_copyFrom (wsV RX8 13 RX8 yX8_get wsX8_get) := goodIn_app (goodIn_of _ (by decide +kernel)) ggX8_copyFrom_X8_get
theorem dX8_copyFrom_0 : decode cX8_copyFrom 0 = .ok (.iconst 0, 1) := by decide +kernel
theorem dX8_copyFrom_1 : decode cX8_copyFrom 1 = .ok (.istore_n 2, 1) := by decide +kernel
theorem dX8_copyFrom_2 : decode cX8_copyFrom 2 = .ok (.iload_n 2, 1) := by decide +kernel
theorem dX8_copyFrom_3 : decode cX8_copyFrom 3 = .ok (.aload_n 0, 1) := by decide +kernel
theorem dX8_copyFrom_4 : decode cX8_copyFrom 4 = .ok (.getfield 7, 3) := by decide +kernel
theorem dX8_copyFrom_7 : decode cX8_copyFrom 7 = .ok (.arraylength, 1) := by decide +kernel
theorem dX8_copyFrom_8 : decode cX8_copyFrom 8 = .ok (.if_icmp .ge 20, 3) := by decide +kernel
theorem dX8_copyFrom_11 : decode cX8_copyFrom 11 = .ok (.aload_n 0, 1) := by decide +kernel
theorem dX8_copyFrom_12 : decode cX8_copyFrom 12 = .ok (.getfield 7, 3) := by decide +kernel
theorem dX8_copyFrom_15 : decode cX8_copyFrom 15 = .ok (.iload_n 2, 1) := by decide +kernel
theorem dX8_copyFrom_16 : decode cX8_copyFrom 16 = .ok (.aload_n 1, 1) := by decide +kernel
theorem dX8_copyFrom_17 : decode cX8_copyFrom 17 = .ok (.iload_n 2, 1) := by decide +kernel
theorem dX8_copyFrom_18 : decode cX8_copyFrom 18 = .ok (.invokevirtual 13, 3) := by decide +kernel
theorem dX8_copyFrom_21 : decode cX8_copyFrom 21 = .ok (.iastore, 1) := by decide +kernel
theorem dX8_copyFrom_22 : decode cX8_copyFrom 22 = .ok (.iinc 2 1, 3) := by decide +kernel
theorem dX8_copyFrom_25 : decode cX8_copyFrom 25 = .ok (.goto (-23), 3) := by decide +kernel
theorem dX8_copyFrom_28 : decode cX8_copyFrom 28 = .ok (.return_, 1) := by decide +kernel
theorem dX8_sum_0 : decode cX8_sum 0 = .ok (.iconst 0, 1) := by decide +kernel
theorem dX8_sum_1 : decode cX8_sum 1 = .ok (.istore_n 1, 1) := by decide +kernel
theorem dX8_sum_2 : decode cX8_sum 2 = .ok (.iconst 0, 1) := by decide +kernel
theorem dX8_sum_3 : decode cX8_sum 3 = .ok (.istore_n 2, 1) := by decide +kernel
theorem dX8_sum_4 : decode cX8_sum 4 = .ok (.iload_n 2, 1) := by decide +kernel
theorem dX8_sum_5 : decode cX8_sum 5 = .ok (.aload_n 0, 1) := by decide +kernel
theorem dX8_sum_6 : decode cX8_sum 6 = .ok (.getfield 7, 3) := by decide +kernel
theorem dX8_sum_9 : decode cX8_sum 9 = .ok (.arraylength, 1) := by decide +kernel
theorem dX8_sum_10 : decode cX8_sum 10 = .ok (.if_icmp .ge 18, 3) := by decide +kernel
theorem dX8_sum_13 : decode cX8_sum 13 = .ok (.iload_n 1, 1) := by decide +kernel
theorem dX8_sum_14 : decode cX8_sum 14 = .ok (.aload_n 0, 1) := by decide +kernel
theorem dX8_sum_15 : decode cX8_sum 15 = .ok (.getfield 7, 3) := by decide +kernel
theorem dX8_sum_18 : decode cX8_sum 18 = .ok (.iload_n 2, 1) := by decide +kernel
theorem dX8_sum_19 : decode cX8_sum 19 = .ok (.iaload, 1) := by decide +kernel
theorem dX8_sum_20 : decode cX8_sum 20 = .ok (.iadd, 1) := by decide +kernel
theorem dX8_sum_21 : decode cX8_sum 21 = .ok (.istore_n 1, 1) := by decide +kernel
theorem dX8_sum_22 : decode cX8_sum 22 = .ok (.iinc 2 1, 3) := by decide +kernel
theorem dX8_sum_25 : decode cX8_sum 25 = .ok (.goto (-21), 3) := by decide +kernel
theorem dX8_sum_28 : decode cX8_sum 28 = .ok (.iload_n 1, 1) := by decide +kernel
theorem dX8_sum_29 : decode cX8_sum 29 = .ok (.ireturn, 1) := by decide +kernel
set_option maxRecDepth 20000 in
theorem ggX9_init_X8_init : GoodIn wsX9_init wsX8_init := goodIn_r _ [10, 11, 2, 3, 12, 13, 14] (by decide +kernel) (by decide +kernel)
set_option maxRecDepth 20000 in
theorem gX9_init_X8_init : GoodIn wsX9_init (wsX8_init) := ggX9_init_X8_init
theorem dX9_init_0 : decode cX9_init 0 = .ok (.aload_n 0, 1) := by decide +kernel
theorem dX9_init_1 : decode cX9_init 1 = .ok (.invokespecial 3, 3) := by decide +kernel
theorem dX9_init_4 : decode cX9_init 4 = .ok (.aload_n 0, 1) := by decide +kernel
theorem dX9_init_5 : decode cX9_init 5 = .ok (.new 9, 3) := by decide +kernel
theorem dX9_init_8 : decode cX9_init 8 = .ok (.dup, 1) := by decide +kernel
theorem dX9_init_9 : decode cX9_init 9 = .ok (.bipush 49, 2) := by decide +kernel
theorem dX9_init_11 : decode cX9_init 11 = .ok (.invokespecial 11, 3) := by decide +kernel
theorem dX9_init_14 : decode cX9_init 14 = .ok (.putfield 14, 3) := by decide +kernel
theorem dX9_init_17 : decode cX9_init 17 = .ok (.return_, 1) := by decide +kernel
set_option maxRecDepth 20000 in
theorem ggX9_clear_X8_fill : GoodIn wsX9_clear wsX8_fill := goodIn_r _ [6, 7, 13] (by decide +kernel) (by decide +kernel)
set_option maxRecDepth 20000 in
theorem gX9_clear_X8_fill : GoodIn wsX9_clear (wsV RX9 20 RX8 yX8_fill wsX8_fill) := goodIn_app (goodIn_of _ (by decide +kernel)) ggX9_clear_X8_fill
set_option maxRecDepth 20000 in
theorem ggX9_clear_X8_set : GoodIn wsX9_clear wsX8_set := goodIn_r _ [11, 7, 13] (by decide +kernel) (by decide +kernel)
set_option maxRecDepth 20000 in
theorem gX9_clear_X8_set : GoodIn wsX9_clear (wsV RX9 23 RX8 yX8_set wsX8_set) := goodIn_app (goodIn_of _ (by decide +kernel)) ggX9_clear_X8_set
theorem dX9_clear_0 : decode cX9_clear 0 = .ok (.aload_n 0, 1) := by decide +kernel
theorem dX9_clear_1 : decode cX9_clear 1 = .ok (.getfield 14, 3) := by decide +kernel
theorem dX9_clear_4 : decode cX9_clear 4 = .ok (.iconst (-1), 1) := by decide +kernel
theorem dX9_clear_5 : decode cX9_clear 5 = .ok (.invokevirtual 20, 3) := by decide +kernel
theorem dX9_clear_8 : decode cX9_clear 8 = .ok (.iconst 0, 1) := by decide +kernel
theorem dX9_clear_9 : decode cX9_clear 9 = .ok (.istore_n 1, 1) := by decide +kernel
theorem dX9_clear_10 : decode cX9_clear 10 = .ok (.iload_n 1, 1) := by decide +kernel
theorem dX9_clear_11 : decode cX9_clear 11 = .ok (.bipush 7, 2) := by decide +kernel
theorem dX9_clear_13 : decode cX9_clear 13 = .ok (.if_icmp .ge 23, 3) := by decide +kernel
theorem dX9_clear_16 : decode cX9_clear 16 = .ok (.aload_n 0, 1) := by decide +kernel
theorem dX9_clear_17 : decode cX9_clear 17 = .ok (.getfield 14, 3) := by decide +kernel
theorem dX9_clear_20 : decode cX9_clear 20 = .ok (.iload_n 1, 1) := by decide +kernel
theorem dX9_clear_21 : decode cX9_clear 21 = .ok (.bipush 7, 2) := by decide +kernel
theorem dX9_clear_23 : decode cX9_clear 23 = .ok (.imul, 1) := by decide +kernel
theorem dX9_clear_24 : decode cX9_clear 24 = .ok (.iload_n 1, 1) := by decide +kernel
theorem dX9_clear_25 : decode cX9_clear 25 = .ok (.iadd, 1) := by decide +kernel
theorem dX9_clear_26 : decode cX9_clear 26 = .ok (.iconst 0, 1) := by decide +kernel
theorem dX9_clear_27 : decode cX9_clear 27 = .ok (.invokevirtual 23, 3) := by decide +kernel
theorem dX9_clear_30 : decode cX9_clear 30 = .ok (.iinc 1 1, 3) := by decide +kernel
theorem dX9_clear_33 : decode cX9_clear 33 = .ok (.goto (-23), 3) := by decide +kernel
theorem dX9_clear_36 : decode cX9_clear 36 = .ok (.return_, 1) := by decide +kernel
set_option maxRecDepth 20000 in
theorem ggX9_between_X8_get : GoodIn wsX9_between wsX8_get := goodIn_r _ [6, 7, 9] (by decide +kernel) (by decide +kernel)
set_option maxRecDepth 20000 in
theorem gX9_between_X8_get : GoodIn wsX9_between (wsV RX9 27 RX8 yX8_get wsX8_get) := goodIn_app (goodIn_of _ (by decide +kernel)) ggX9_between_X8_get
theorem dX9_between_0 : decode cX9_between 0 = .ok (.aload_n 0, 1) := by decide +kernel
theorem dX9_between_1 : decode cX9_between 1 = .ok (.getfield 14, 3) := by decide +kernel
theorem dX9_between_4 : decode cX9_between 4 = .ok (.iload_n 1, 1) := by decide +kernel
theorem dX9_between_5 : decode cX9_between 5 = .ok (.bipush 7, 2) := by decide +kernel
theorem dX9_between_7 : decode cX9_between 7 = .ok (.imul, 1) := by decide +kernel
theorem dX9_between_8 : decode cX9_between 8 = .ok (.iload_n 2, 1) := by decide +kernel
theorem dX9_between_9 : decode cX9_between 9 = .ok (.iadd, 1) := by decide +kernel
theorem dX9_between_10 : decode cX9_between 10 = .ok (.invokevirtual 27, 3) := by decide +kernel
theorem dX9_between_13 : decode cX9_between 13 = .ok (.ireturn, 1) := by decide +kernel
set_option maxRecDepth 20000 in
theorem ggX9_link_X9_between : GoodIn wsX9_link wsX9_between := goodIn_r _ [6, 1, 7, 8, 9, 10, 11, 12, 17, 18] (by decide +kernel) (by decide +kernel)
set_option maxRecDepth 20000 in
theorem gX9_link_X9_between : GoodIn wsX9_link (wsV RX9 31 RX9 yX9_between wsX9_between) := goodIn_app (goodIn_of _ (by decide +kernel)) ggX9_link_X9_between
set_option maxRecDepth 20000 in
theorem ggX9_link_X8_set : GoodIn wsX9_link wsX8_set := goodIn_r _ [16, 12, 18] (by decide +kernel) (by decide +kernel)
set_option maxRecDepth 20000 in
theorem gX9_link_X8_set : GoodIn wsX9_link (wsV RX9 23 RX8 yX8_set wsX8_set) := goodIn_app (goodIn_of _ (by decide +kernel)) ggX9_link_X8_set
theorem dX9_link_0 : decode cX9_link 0 = .ok (.aload_n 0, 1) := by decide +kernel
theorem dX9_link_1 : decode cX9_link 1 = .ok (.iload_n 1, 1) := by decide +kernel
theorem dX9_link_2 : decode cX9_link 2 = .ok (.iload_n 2, 1) := by decide +kernel
theorem dX9_link_3 : decode cX9_link 3 = .ok (.invokevirtual 31, 3) := by decide +kernel
theorem dX9_link_6 : decode cX9_link 6 = .ok (.istore 4, 2) := by decide +kernel
theorem dX9_link_8 : decode cX9_link 8 = .ok (.iload 4, 2) := by decide +kernel
theorem dX9_link_10 : decode cX9_link 10 = .ok (.iconst (-1), 1) := by decide +kernel
theorem dX9_link_11 : decode cX9_link 11 = .ok (.if_icmp .eq 9, 3) := by decide +kernel
theorem dX9_link_14 : decode cX9_link 14 = .ok (.iload_n 3, 1) := by decide +kernel
theorem dX9_link_15 : decode cX9_link 15 = .ok (.iload 4, 2) := by decide +kernel
theorem dX9_link_17 : decode cX9_link 17 = .ok (.if_icmp .ge 17, 3) := by decide +kernel
theorem dX9_link_20 : decode cX9_link 20 = .ok (.aload_n 0, 1) := by decide +kernel
theorem dX9_link_21 : decode cX9_link 21 = .ok (.getfield 14, 3) := by decide +kernel
theorem dX9_link_24 : decode cX9_link 24 = .ok (.iload_n 1, 1) := by decide +kernel
theorem dX9_link_25 : decode cX9_link 25 = .ok (.bipush 7, 2) := by decide +kernel
theorem dX9_link_27 : decode cX9_link 27 = .ok (.imul, 1) := by decide +kernel
theorem dX9_link_28 : decode cX9_link 28 = .ok (.iload_n 2, 1) := by decide +kernel
theorem dX9_link_29 : decode cX9_link 29 = .ok (.iadd, 1) := by decide +kernel
theorem dX9_link_30 : decode cX9_link 30 = .ok (.iload_n 3, 1) := by decide +kernel
theorem dX9_link_31 : decode cX9_link 31 = .ok (.invokevirtual 23, 3) := by decide +kernel
theorem dX9_link_34 : decode cX9_link 34 = .ok (.return_, 1) := by decide +kernel
set_option maxRecDepth 20000 in
theorem ggX9_joinWays_X9_between : GoodIn wsX9_joinWays wsX9_between := goodIn_r _ [5, 6, 7, 8, 9, 10, 11, 12, 21, 22] (by decide +kernel) (by decide +kernel)
