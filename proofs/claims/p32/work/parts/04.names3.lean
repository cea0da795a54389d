set_option maxRecDepth 20000 in
theorem ggX2_init_X1_init : GoodIn wsX2_init wsX1_init := goodIn_r _ [49, 50, 2, 3, 51, 20, 21, 52, 53, 54, 55, 56, 57, 58, 59, 60, 61, 62, 63, 64, 65, 66, 67, 68, 69, 70, 71, 72, 73, 74, 75, 76, 77, 115, 116, 117, 118, 109, 110, 111, 112, 113, 114] (by decide +kernel) (by decide +kernel)
set_option maxRecDepth 20000 in
theorem gX2_init_X1_init_n42 : GoodIn wsX2_init (wsX1_init) := ggX2_init_X1_init
set_option maxRecDepth 20000 in
theorem ggX2_init_J4_init_da8c8 : GoodIn wsX2_init wsJ4_init_da8c8 := goodIn_r _ [60, 61, 62, 63, 64, 65, 2, 3, 66, 67, 68, 69, 70, 71, 72, 73, 74, 75, 76, 77, 115, 116, 117, 118] (by decide +kernel) (by decide +kernel)
set_option maxRecDepth 20000 in
theorem gX2_init_J4_init_da8c8 : GoodIn wsX2_init (wsJ4_init_da8c8) := ggX2_init_J4_init_da8c8
theorem dX2_init_0 : decode cX2_init 0 = .ok (.aload_n 0, 1) := by decide +kernel
theorem dX2_init_1 : decode cX2_init 1 = .ok (.invokespecial 1, 3) := by decide +kernel
theorem dX2_init_4 : decode cX2_init 4 = .ok (.aload_n 0, 1) := by decide +kernel
theorem dX2_init_5 : decode cX2_init 5 = .ok (.new 7, 3) := by decide +kernel
theorem dX2_init_8 : decode cX2_init 8 = .ok (.dup, 1) := by decide +kernel
theorem dX2_init_9 : decode cX2_init 9 = .ok (.invokespecial 9, 3) := by decide +kernel
theorem dX2_init_12 : decode cX2_init 12 = .ok (.putfield 10, 3) := by decide +kernel
theorem dX2_init_15 : decode cX2_init 15 = .ok (.aload_n 0, 1) := by decide +kernel
theorem dX2_init_16 : decode cX2_init 16 = .ok (.new 7, 3) := by decide +kernel
theorem dX2_init_19 : decode cX2_init 19 = .ok (.dup, 1) := by decide +kernel
theorem dX2_init_20 : decode cX2_init 20 = .ok (.invokespecial 9, 3) := by decide +kernel
theorem dX2_init_23 : decode cX2_init 23 = .ok (.putfield 16, 3) := by decide +kernel
theorem dX2_init_26 : decode cX2_init 26 = .ok (.aload_n 0, 1) := by decide +kernel
theorem dX2_init_27 : decode cX2_init 27 = .ok (.new 7, 3) := by decide +kernel
theorem dX2_init_30 : decode cX2_init 30 = .ok (.dup, 1) := by decide +kernel
theorem dX2_init_31 : decode cX2_init 31 = .ok (.invokespecial 9, 3) := by decide +kernel
theorem dX2_init_34 : decode cX2_init 34 = .ok (.putfield 19, 3) := by decide +kernel
theorem dX2_init_37 : decode cX2_init 37 = .ok (.aload_n 0, 1) := by decide +kernel
theorem dX2_init_38 : decode cX2_init 38 = .ok (.new 7, 3) := by decide +kernel
theorem dX2_init_41 : decode cX2_init 41 = .ok (.dup, 1) := by decide +kernel
theorem dX2_init_42 : decode cX2_init 42 = .ok (.invokespecial 9, 3) := by decide +kernel
theorem dX2_init_45 : decode cX2_init 45 = .ok (.putfield 22, 3) := by decide +kernel
theorem dX2_init_48 : decode cX2_init 48 = .ok (.aload_n 0, 1) := by decide +kernel
theorem dX2_init_49 : decode cX2_init 49 = .ok (.iconst 0, 1) := by decide +kernel
theorem dX2_init_50 : decode cX2_init 50 = .ok (.putfield 25, 3) := by decide +kernel
theorem dX2_init_53 : decode cX2_init 53 = .ok (.aload_n 0, 1) := by decide +kernel
theorem dX2_init_54 : decode cX2_init 54 = .ok (.bipush 8, 2) := by decide +kernel
theorem dX2_init_56 : decode cX2_init 56 = .ok (.anewarray 7, 3) := by decide +kernel
theorem dX2_init_59 : decode cX2_init 59 = .ok (.putfield 29, 3) := by decide +kernel
theorem dX2_init_62 : decode cX2_init 62 = .ok (.aload_n 0, 1) := by decide +kernel
theorem dX2_init_63 : decode cX2_init 63 = .ok (.iconst 0, 1) := by decide +kernel
theorem dX2_init_64 : decode cX2_init 64 = .ok (.putfield 33, 3) := by decide +kernel
theorem dX2_init_67 : decode cX2_init 67 = .ok (.aload_n 0, 1) := by decide +kernel
theorem dX2_init_68 : decode cX2_init 68 = .ok (.iconst 0, 1) := by decide +kernel
theorem dX2_init_69 : decode cX2_init 69 = .ok (.putfield 37, 3) := by decide +kernel
theorem dX2_init_72 : decode cX2_init 72 = .ok (.aload_n 0, 1) := by decide +kernel
theorem dX2_init_73 : decode cX2_init 73 = .ok (.new 40, 3) := by decide +kernel
theorem dX2_init_76 : decode cX2_init 76 = .ok (.dup, 1) := by decide +kernel
theorem dX2_init_77 : decode cX2_init 77 = .ok (.invokespecial 42, 3) := by decide +kernel
theorem dX2_init_80 : decode cX2_init 80 = .ok (.putfield 43, 3) := by decide +kernel
theorem dX2_init_83 : decode cX2_init 83 = .ok (.aload_n 0, 1) := by decide +kernel
theorem dX2_init_84 : decode cX2_init 84 = .ok (.new 47, 3) := by decide +kernel
theorem dX2_init_87 : decode cX2_init 87 = .ok (.dup, 1) := by decide +kernel
theorem dX2_init_88 : decode cX2_init 88 = .ok (.invokespecial 49, 3) := by decide +kernel
theorem dX2_init_91 : decode cX2_init 91 = .ok (.putfield 50, 3) := by decide +kernel
theorem dX2_init_94 : decode cX2_init 94 = .ok (.aload_n 0, 1) := by decide +kernel
theorem dX2_init_95 : decode cX2_init 95 = .ok (.bipush (-4), 2) := by decide +kernel
theorem dX2_init_97 : decode cX2_init 97 = .ok (.putfield 54, 3) := by decide +kernel
theorem dX2_init_100 : decode cX2_init 100 = .ok (.aload_n 0, 1) := by decide +kernel
theorem dX2_init_101 : decode cX2_init 101 = .ok (.bipush (-4), 2) := by decide +kernel
theorem dX2_init_103 : decode cX2_init 103 = .ok (.putfield 57, 3) := by decide +kernel
theorem dX2_init_106 : decode cX2_init 106 = .ok (.aload_n 0, 1) := by decide +kernel
theorem dX2_init_107 : decode cX2_init 107 = .ok (.bipush (-4), 2) := by decide +kernel
theorem dX2_init_109 : decode cX2_init 109 = .ok (.putfield 60, 3) := by decide +kernel
theorem dX2_init_112 : decode cX2_init 112 = .ok (.aload_n 0, 1) := by decide +kernel
theorem dX2_init_113 : decode cX2_init 113 = .ok (.bipush (-4), 2) := by decide +kernel
theorem dX2_init_115 : decode cX2_init 115 = .ok (.putfield 63, 3) := by decide +kernel
theorem dX2_init_118 : decode cX2_init 118 = .ok (.iconst 0, 1) := by decide +kernel
theorem dX2_init_119 : decode cX2_init 119 = .ok (.istore_n 1, 1) := by decide +kernel
theorem dX2_init_120 : decode cX2_init 120 = .ok (.iload_n 1, 1) := by decide +kernel
theorem dX2_init_121 : decode cX2_init 121 = .ok (.bipush 8, 2) := by decide +kernel
theorem dX2_init_123 : decode cX2_init 123 = .ok (.if_icmp .ge 22, 3) := by decide +kernel
theorem dX2_init_126 : decode cX2_init 126 = .ok (.aload_n 0, 1) := by decide +kernel
theorem dX2_init_127 : decode cX2_init 127 = .ok (.getfield 29, 3) := by decide +kernel
theorem dX2_init_130 : decode cX2_init 130 = .ok (.iload_n 1, 1) := by decide +kernel
theorem dX2_init_131 : decode cX2_init 131 = .ok (.new 7, 3) := by decide +kernel
theorem dX2_init_134 : decode cX2_init 134 = .ok (.dup, 1) := by decide +kernel
theorem dX2_init_135 : decode cX2_init 135 = .ok (.invokespecial 9, 3) := by decide +kernel
theorem dX2_init_138 : decode cX2_init 138 = .ok (.aastore, 1) := by decide +kernel
theorem dX2_init_139 : decode cX2_init 139 = .ok (.iinc 1 1, 3) := by decide +kernel
theorem dX2_init_142 : decode cX2_init 142 = .ok (.goto (-22), 3) := by decide +kernel
theorem dX2_init_145 : decode cX2_init 145 = .ok (.return_, 1) := by decide +kernel
set_option maxRecDepth 20000 in
theorem ggX2_dusk_X0_copyFrom : GoodIn wsX2_dusk wsX0_copyFrom := goodIn_r _ [7, 8, 9, 10, 11, 12, 13, 14, 15, 16, 17, 18, 19, 20, 21, 22, 23, 24, 25, 26, 27, 92, 93, 94, 95, 96, 97, 98, 99, 100, 101, 102, 103, 104, 105, 106, 107] (by decide +kernel) (by decide +kernel)
set_option maxRecDepth 20000 in
theorem gX2_dusk_X0_copyFrom : GoodIn wsX2_dusk (wsV RX2 66 RX0 yX0_copyFrom wsX0_copyFrom) := goodIn_app (goodIn_of _ (by decide +kernel)) ggX2_dusk_X0_copyFrom
set_option maxRecDepth 20000 in
theorem ggX2_dusk_X2_bringDusk : GoodIn wsX2_dusk wsX2_bringDusk := goodIn_r _ [32, 2, 33, 34, 35, 36, 37, 31, 38, 39, 40, 41, 42, 43, 44, 45, 46, 47, 48, 49, 6, 50, 22, 8, 13, 16, 14, 23, 51, 52, 53, 54, 15, 21, 55, 56, 57, 58, 59, 60, 61, 62, 17, 63, 64, 65, 66, 19, 78, 79, 80, 81, 82, 83, 84, 85, 86, 87, 88, 89, 90, 91, 92, 93, 94, 95, 96, 97, 98, 99, 100, 101, 102, 103, 104, 105, 106, 107] (by decide +kernel) (by decide +kernel)
set_option maxRecDepth 20000 in
theorem gX2_dusk_X2_bringDusk : GoodIn wsX2_dusk (wsV RX2 70 RX2 yX2_bringDusk wsX2_bringDusk) := goodIn_app (goodIn_of _ (by decide +kernel)) ggX2_dusk_X2_bringDusk
set_option maxRecDepth 20000 in
theorem ggX2_dusk_X2_finishChange : GoodIn wsX2_dusk wsX2_finishChange := goodIn_r _ [70, 71, 72, 1, 73, 74, 75, 76, 77, 3, 4, 5, 6, 7, 8, 9, 10, 11, 12, 13, 14, 15, 16, 17, 18, 19, 20, 21, 22, 23, 24, 25, 26, 27, 78, 79, 80, 81, 82, 83, 84, 85, 86, 87, 88, 89, 90, 91, 92, 93, 94, 95, 96, 97, 98, 99, 100, 101, 102, 103, 104, 105, 106, 107] (by decide +kernel) (by decide +kernel)
set_option maxRecDepth 20000 in
theorem gX2_dusk_X2_finishChange : GoodIn wsX2_dusk (wsV RX2 74 RX2 yX2_finishChange wsX2_finishChange) := goodIn_app (goodIn_of _ (by decide +kernel)) ggX2_dusk_X2_finishChange
theorem dX2_dusk_0 : decode cX2_dusk 0 = .ok (.aload_n 0, 1) := by decide +kernel
theorem dX2_dusk_1 : decode cX2_dusk 1 = .ok (.getfield 16, 3) := by decide +kernel
theorem dX2_dusk_4 : decode cX2_dusk 4 = .ok (.aload_n 0, 1) := by decide +kernel
theorem dX2_dusk_5 : decode cX2_dusk 5 = .ok (.getfield 10, 3) := by decide +kernel
theorem dX2_dusk_8 : decode cX2_dusk 8 = .ok (.invokevirtual 66, 3) := by decide +kernel
theorem dX2_dusk_11 : decode cX2_dusk 11 = .ok (.aload_n 0, 1) := by decide +kernel
theorem dX2_dusk_12 : decode cX2_dusk 12 = .ok (.aload_n 0, 1) := by decide +kernel
theorem dX2_dusk_13 : decode cX2_dusk 13 = .ok (.iload_n 1, 1) := by decide +kernel
theorem dX2_dusk_14 : decode cX2_dusk 14 = .ok (.invokevirtual 70, 3) := by decide +kernel
theorem dX2_dusk_17 : decode cX2_dusk 17 = .ok (.invokevirtual 74, 3) := by decide +kernel
theorem dX2_dusk_20 : decode cX2_dusk 20 = .ok (.ireturn, 1) := by decide +kernel
set_option maxRecDepth 20000 in
theorem ggX2_write_X0_copyFrom : GoodIn wsX2_write wsX0_copyFrom := goodIn_r _ [7, 8, 9, 10, 11, 12, 13, 14, 15, 16, 17, 18, 19, 20, 21, 22, 23, 24, 25, 26, 27, 80, 81, 82, 83, 84, 85, 86, 87, 88, 89, 90, 91, 92, 93, 94, 95] (by decide +kernel) (by decide +kernel)
set_option maxRecDepth 20000 in
theorem gX2_write_X0_copyFrom : GoodIn wsX2_write (wsV RX2 66 RX0 yX0_copyFrom wsX0_copyFrom) := goodIn_app (goodIn_of _ (by decide +kernel)) ggX2_write_X0_copyFrom
set_option maxRecDepth 20000 in
theorem ggX2_write_X2_writePage : GoodIn wsX2_write wsX2_writePage := goodIn_r _ [32, 2, 33, 34, 35, 36, 37, 38, 31, 39, 40, 41, 42, 43, 44, 45, 46, 47, 48, 49, 50, 51, 52, 53, 6, 54, 17, 19, 8, 20, 24, 66, 67, 68, 69, 70, 71, 72, 73, 74, 75, 76, 77, 78, 79, 80, 81, 82, 83, 84, 85, 86, 87, 88, 89, 90, 91, 92, 93, 94, 95] (by decide +kernel) (by decide +kernel)
set_option maxRecDepth 20000 in
theorem gX2_write_X2_writePage : GoodIn wsX2_write (wsV RX2 77 RX2 yX2_writePage wsX2_writePage) := goodIn_app (goodIn_of _ (by decide +kernel)) ggX2_write_X2_writePage
set_option maxRecDepth 20000 in
theorem ggX2_write_X2_finishChange : GoodIn wsX2_write wsX2_finishChange := goodIn_r _ [58, 59, 60, 1, 61, 62, 63, 64, 65, 3, 4, 5, 6, 7, 8, 9, 10, 11, 12, 13, 14, 15, 16, 17, 18, 19, 20, 21, 22, 23, 24, 25, 26, 27, 66, 67, 68, 69, 70, 71, 72, 73, 74, 75, 76, 77, 78, 79, 80, 81, 82, 83, 84, 85, 86, 87, 88, 89, 90, 91, 92, 93, 94, 95] (by decide +kernel) (by decide +kernel)
set_option maxRecDepth 20000 in
theorem gX2_write_X2_finishChange : GoodIn wsX2_write (wsV RX2 74 RX2 yX2_finishChange wsX2_finishChange) := goodIn_app (goodIn_of _ (by decide +kernel)) ggX2_write_X2_finishChange
theorem dX2_write_0 : decode cX2_write 0 = .ok (.aload_n 0, 1) := by decide +kernel
theorem dX2_write_1 : decode cX2_write 1 = .ok (.getfield 16, 3) := by decide +kernel
theorem dX2_write_4 : decode cX2_write 4 = .ok (.aload_n 0, 1) := by decide +kernel
theorem dX2_write_5 : decode cX2_write 5 = .ok (.getfield 10, 3) := by decide +kernel
theorem dX2_write_8 : decode cX2_write 8 = .ok (.invokevirtual 66, 3) := by decide +kernel
theorem dX2_write_11 : decode cX2_write 11 = .ok (.aload_n 0, 1) := by decide +kernel
theorem dX2_write_12 : decode cX2_write 12 = .ok (.aload_n 0, 1) := by decide +kernel
theorem dX2_write_13 : decode cX2_write 13 = .ok (.iload_n 1, 1) := by decide +kernel
theorem dX2_write_14 : decode cX2_write 14 = .ok (.iload_n 2, 1) := by decide +kernel
theorem dX2_write_15 : decode cX2_write 15 = .ok (.invokevirtual 77, 3) := by decide +kernel
theorem dX2_write_18 : decode cX2_write 18 = .ok (.invokevirtual 74, 3) := by decide +kernel
theorem dX2_write_21 : decode cX2_write 21 = .ok (.ireturn, 1) := by decide +kernel
set_option maxRecDepth 20000 in
theorem ggX2_march_X0_copyFrom : GoodIn wsX2_march wsX0_copyFrom := goodIn_r _ [7, 8, 9, 10, 11, 12, 13, 14, 15, 16, 17, 18, 19, 20, 21, 22, 23, 24, 25, 26, 27, 104, 105, 106, 107, 108, 109, 110, 111, 112, 113, 114, 115, 116, 117, 118, 119] (by decide +kernel) (by decide +kernel)
set_option maxRecDepth 20000 in
theorem gX2_march_X0_copyFrom : GoodIn wsX2_march (wsV RX2 66 RX0 yX0_copyFrom wsX0_copyFrom) := goodIn_app (goodIn_of _ (by decide +kernel)) ggX2_march_X0_copyFrom
set_option maxRecDepth 20000 in
theorem ggX2_march_X2_sendCaptain : GoodIn wsX2_march wsX2_sendCaptain := goodIn_r _ [32, 2, 33, 34, 35, 36, 37, 38, 31, 39, 40, 41, 42, 43, 44, 45, 46, 47, 48, 49, 50, 6, 51, 26, 8, 52, 53, 54, 55, 15, 21, 56, 57, 58, 59, 13, 14, 60, 61, 62, 63, 16, 17, 25, 19, 20, 64, 65, 66, 67, 68, 69, 70, 71, 72, 73, 74, 75, 18, 76, 77, 78, 79, 90, 91, 92, 93, 94, 95, 96, 97, 98, 99, 100, 101, 102, 103, 104, 105, 106, 107, 108, 109, 110, 111, 112, 113, 114, 115, 116, 117, 118, 119] (by decide +kernel) (by decide +kernel)
set_option maxRecDepth 20000 in
theorem gX2_march_X2_sendCaptain : GoodIn wsX2_march (wsV RX2 81 RX2 yX2_sendCaptain wsX2_sendCaptain) := goodIn_app (goodIn_of _ (by decide +kernel)) ggX2_march_X2_sendCaptain
set_option maxRecDepth 20000 in
theorem ggX2_march_X2_finishChange : GoodIn wsX2_march wsX2_finishChange := goodIn_r _ [83, 84, 85, 1, 86, 87, 88, 66, 89, 3, 4, 5, 6, 7, 8, 9, 10, 11, 12, 13, 14, 15, 16, 17, 18, 19, 20, 21, 22, 23, 24, 25, 26, 27, 90, 91, 92, 93, 94, 95, 96, 97, 98, 99, 100, 101, 102, 103, 104, 105, 106, 107, 108, 109, 110, 111, 112, 113, 114, 115, 116, 117, 118, 119] (by decide +kernel) (by decide +kernel)
set_option maxRecDepth 20000 in
theorem gX2_march_X2_finishChange : GoodIn wsX2_march (wsV RX2 74 RX2 yX2_finishChange wsX2_finishChange) := goodIn_app (goodIn_of _ (by decide +kernel)) ggX2_march_X2_finishChange
theorem dX2_march_0 : decode cX2_march 0 = .ok (.aload_n 0, 1) := by decide +kernel
theorem dX2_march_1 : decode cX2_march 1 = .ok (.getfield 16, 3) := by decide +kernel
theorem dX2_march_4 : decode cX2_march 4 = .ok (.aload_n 0, 1) := by decide +kernel
theorem dX2_march_5 : decode cX2_march 5 = .ok (.getfield 10, 3) := by decide +kernel
theorem dX2_march_8 : decode cX2_march 8 = .ok (.invokevirtual 66, 3) := by decide +kernel
theorem dX2_march_11 : decode cX2_march 11 = .ok (.aload_n 0, 1) := by decide +kernel
theorem dX2_march_12 : decode cX2_march 12 = .ok (.aload_n 0, 1) := by decide +kernel
theorem dX2_march_13 : decode cX2_march 13 = .ok (.iload_n 1, 1) := by decide +kernel
theorem dX2_march_14 : decode cX2_march 14 = .ok (.invokevirtual 81, 3) := by decide +kernel
theorem dX2_march_17 : decode cX2_march 17 = .ok (.invokevirtual 74, 3) := by decide +kernel
theorem dX2_march_20 : decode cX2_march 20 = .ok (.ireturn, 1) := by decide +kernel
set_option maxRecDepth 20000 in
theorem ggX2_road_X0_copyFrom : GoodIn wsX2_road wsX0_copyFrom := goodIn_r _ [7, 8, 9, 10, 11, 12, 13, 14, 15, 16, 17, 18, 19, 20, 21, 22, 23, 24, 25, 26, 27, 79, 80, 81, 82, 83, 84, 85, 86, 87, 88, 89, 90, 91, 92, 93, 94] (by decide +kernel) (by decide +kernel)
set_option maxRecDepth 20000 in
theorem gX2_road_X0_copyFrom : GoodIn wsX2_road (wsV RX2 66 RX0 yX0_copyFrom wsX0_copyFrom) := goodIn_app (goodIn_of _ (by decide +kernel)) ggX2_road_X0_copyFrom
set_option maxRecDepth 20000 in
theorem ggX2_road_X2_turnRoad : GoodIn wsX2_road wsX2_turnRoad := goodIn_r _ [32, 2, 33, 34, 35, 31, 36, 37, 38, 39, 40, 41, 42, 43, 44, 45, 46, 47, 48, 49, 50, 6, 51, 21, 52, 53, 65, 66, 67, 68, 69, 70, 71, 72, 73, 74, 75, 76, 77, 78, 79, 80, 81, 82, 83, 84, 85, 86, 87, 88, 89, 90, 91, 92, 93, 94] (by decide +kernel) (by decide +kernel)
set_option maxRecDepth 20000 in
theorem gX2_road_X2_turnRoad : GoodIn wsX2_road (wsV RX2 84 RX2 yX2_turnRoad wsX2_turnRoad) := goodIn_app (goodIn_of _ (by decide +kernel)) ggX2_road_X2_turnRoad
set_option maxRecDepth 20000 in
theorem ggX2_road_X2_finishChange : GoodIn wsX2_road wsX2_finishChange := goodIn_r _ [57, 58, 59, 1, 60, 61, 62, 63, 64, 3, 4, 5, 6, 7, 8, 9, 10, 11, 12, 13, 14, 15, 16, 17, 18, 19, 20, 21, 22, 23, 24, 25, 26, 27, 65, 66, 67, 68, 69, 70, 71, 72, 73, 74, 75, 76, 77, 78, 79, 80, 81, 82, 83, 84, 85, 86, 87, 88, 89, 90, 91, 92, 93, 94] (by decide +kernel) (by decide +kernel)
set_option maxRecDepth 20000 in
theorem gX2_road_X2_finishChange : GoodIn wsX2_road (wsV RX2 74 RX2 yX2_finishChange wsX2_finishChange) := goodIn_app (goodIn_of _ (by decide +kernel)) ggX2_road_X2_finishChange
theorem dX2_road_0 : decode cX2_road 0 = .ok (.aload_n 0, 1) := by decide +kernel
theorem dX2_road_1 : decode cX2_road 1 = .ok (.getfield 16, 3) := by decide +kernel
theorem dX2_road_4 : decode cX2_road 4 = .ok (.aload_n 0, 1) := by decide +kernel
theorem dX2_road_5 : decode cX2_road 5 = .ok (.getfield 10, 3) := by decide +kernel
theorem dX2_road_8 : decode cX2_road 8 = .ok (.invokevirtual 66, 3) := by decide +kernel
theorem dX2_road_11 : decode cX2_road 11 = .ok (.aload_n 0, 1) := by decide +kernel
theorem dX2_road_12 : decode cX2_road 12 = .ok (.aload_n 0, 1) := by decide +kernel
theorem dX2_road_13 : decode cX2_road 13 = .ok (.iload_n 1, 1) := by decide +kernel
theorem dX2_road_14 : decode cX2_road 14 = .ok (.iload_n 2, 1) := by decide +kernel
theorem dX2_road_15 : decode cX2_road 15 = .ok (.iload_n 3, 1) := by decide +kernel
theorem dX2_road_16 : decode cX2_road 16 = .ok (.invokevirtual 84, 3) := by decide +kernel
theorem dX2_road_19 : decode cX2_road 19 = .ok (.invokevirtual 74, 3) := by decide +kernel
theorem dX2_road_22 : decode cX2_road 22 = .ok (.ireturn, 1) := by decide +kernel
set_option maxRecDepth 20000 in
theorem ggX2_sleep_X0_copyFrom : GoodIn wsX2_sleep wsX0_copyFrom := goodIn_r _ [7, 8, 9, 10, 11, 12, 13, 14, 15, 16, 17, 18, 19, 20, 21, 22, 23, 24, 25, 26, 27, 78, 79, 80, 81, 82, 83, 84, 85, 86, 87, 88, 89, 90, 91, 92, 93] (by decide +kernel) (by decide +kernel)
set_option maxRecDepth 20000 in
theorem gX2_sleep_X0_copyFrom : GoodIn wsX2_sleep (wsV RX2 66 RX0 yX0_copyFrom wsX0_copyFrom) := goodIn_app (goodIn_of _ (by decide +kernel)) ggX2_sleep_X0_copyFrom
set_option maxRecDepth 20000 in
theorem ggX2_sleep_X2_turnCamp : GoodIn wsX2_sleep wsX2_turnCamp := goodIn_r _ [32, 2, 33, 34, 35, 36, 37, 31, 38, 39, 40, 41, 42, 43, 44, 45, 46, 47, 48, 49, 50, 51, 52, 64, 65, 66, 67, 68, 69, 70, 71, 72, 73, 74, 75, 76, 77, 78, 79, 80, 81, 82, 83, 84, 85, 86, 87, 88, 89, 90, 91, 92, 93] (by decide +kernel) (by decide +kernel)
set_option maxRecDepth 20000 in
theorem gX2_sleep_X2_turnCamp : GoodIn wsX2_sleep (wsV RX2 88 RX2 yX2_turnCamp wsX2_turnCamp) := goodIn_app (goodIn_of _ (by decide +kernel)) ggX2_sleep_X2_turnCamp
set_option maxRecDepth 20000 in
theorem ggX2_sleep_X2_finishChange : GoodIn wsX2_sleep wsX2_finishChange := goodIn_r _ [56, 57, 58, 1, 59, 60, 61, 62, 63, 3, 4, 5, 6, 7, 8, 9, 10, 11, 12, 13, 14, 15, 16, 17, 18, 19, 20, 21, 22, 23, 24, 25, 26, 27, 64, 65, 66, 67, 68, 69, 70, 71, 72, 73, 74, 75, 76, 77, 78, 79, 80, 81, 82, 83, 84, 85, 86, 87, 88, 89, 90, 91, 92, 93] (by decide +kernel) (by decide +kernel)
set_option maxRecDepth 20000 in
theorem gX2_sleep_X2_finishChange : GoodIn wsX2_sleep (wsV RX2 74 RX2 yX2_finishChange wsX2_finishChange) := goodIn_app (goodIn_of _ (by decide +kernel)) ggX2_sleep_X2_finishChange
theorem dX2_sleep_0 : decode cX2_sleep 0 = .ok (.aload_n 0, 1) := by decide +kernel
theorem dX2_sleep_1 : decode cX2_sleep 1 = .ok (.getfield 16, 3) := by decide +kernel
theorem dX2_sleep_4 : decode cX2_sleep 4 = .ok (.aload_n 0, 1) := by decide +kernel
theorem dX2_sleep_5 : decode cX2_sleep 5 = .ok (.getfield 10, 3) := by decide +kernel
theorem dX2_sleep_8 : decode cX2_sleep 8 = .ok (.invokevirtual 66, 3) := by decide +kernel
theorem dX2_sleep_11 : decode cX2_sleep 11 = .ok (.aload_n 0, 1) := by decide +kernel
theorem dX2_sleep_12 : decode cX2_sleep 12 = .ok (.aload_n 0, 1) := by decide +kernel
theorem dX2_sleep_13 : decode cX2_sleep 13 = .ok (.iload_n 1, 1) := by decide +kernel
theorem dX2_sleep_14 : decode cX2_sleep 14 = .ok (.iload_n 2, 1) := by decide +kernel
theorem dX2_sleep_15 : decode cX2_sleep 15 = .ok (.invokevirtual 88, 3) := by decide +kernel
theorem dX2_sleep_18 : decode cX2_sleep 18 = .ok (.invokevirtual 74, 3) := by decide +kernel
theorem dX2_sleep_21 : decode cX2_sleep 21 = .ok (.ireturn, 1) := by decide +kernel
set_option maxRecDepth 20000 in
theorem ggX2_pass_X0_copyFrom : GoodIn wsX2_pass wsX0_copyFrom := goodIn_r _ [7, 8, 9, 10, 11, 12, 13, 14, 15, 16, 17, 18, 19, 20, 21, 22, 23, 24, 25, 26, 27, 106, 107, 108, 109, 110, 111, 112, 113, 114, 115, 116, 117, 118, 119, 120, 121] (by decide +kernel) (by decide +kernel)
set_option maxRecDepth 20000 in
theorem gX2_pass_X0_copyFrom : GoodIn wsX2_pass (wsV RX2 66 RX0 yX0_copyFrom wsX0_copyFrom) := goodIn_app (goodIn_of _ (by decide +kernel)) ggX2_pass_X0_copyFrom
set_option maxRecDepth 20000 in
theorem ggX2_pass_X2_passHours : GoodIn wsX2_pass wsX2_passHours := goodIn_r _ [32, 2, 33, 34, 35, 36, 6, 37, 27, 14, 16, 38, 39, 40, 41, 26, 8, 42, 43, 44, 45, 15, 21, 46, 47, 48, 49, 13, 50, 51, 52, 53, 17, 25, 19, 20, 54, 55, 56, 57, 58, 59, 60, 61, 62, 63, 64, 65, 18, 66, 67, 68, 69, 70, 71, 72, 73, 74, 75, 76, 77, 22, 23, 78, 79, 80, 81, 92, 93, 94, 95, 96, 97, 98, 99, 100, 101, 102, 103, 104, 105, 106, 107, 108, 109, 110, 111, 112, 113, 114, 115, 116, 117, 118, 119, 120, 121] (by decide +kernel) (by decide +kernel)
set_option maxRecDepth 20000 in
theorem gX2_pass_X2_passHours : GoodIn wsX2_pass (wsV RX2 91 RX2 yX2_passHours wsX2_passHours) := goodIn_app (goodIn_of _ (by decide +kernel)) ggX2_pass_X2_passHours
set_option maxRecDepth 20000 in
theorem ggX2_pass_X2_finishChange : GoodIn wsX2_pass wsX2_finishChange := goodIn_r _ [85, 86, 87, 1, 88, 89, 90, 56, 91, 3, 4, 5, 6, 7, 8, 9, 10, 11, 12, 13, 14, 15, 16, 17, 18, 19, 20, 21, 22, 23, 24, 25, 26, 27, 92, 93, 94, 95, 96, 97, 98, 99, 100, 101, 102, 103, 104, 105, 106, 107, 108, 109, 110, 111, 112, 113, 114, 115, 116, 117, 118, 119, 120, 121] (by decide +kernel) (by decide +kernel)
set_option maxRecDepth 20000 in
theorem gX2_pass_X2_finishChange : GoodIn wsX2_pass (wsV RX2 74 RX2 yX2_finishChange wsX2_finishChange) := goodIn_app (goodIn_of _ (by decide +kernel)) ggX2_pass_X2_finishChange
theorem dX2_pass_0 : decode cX2_pass 0 = .ok (.aload_n 0, 1) := by decide +kernel
theorem dX2_pass_1 : decode cX2_pass 1 = .ok (.getfield 16, 3) := by decide +kernel
theorem dX2_pass_4 : decode cX2_pass 4 = .ok (.aload_n 0, 1) := by decide +kernel
theorem dX2_pass_5 : decode cX2_pass 5 = .ok (.getfield 10, 3) := by decide +kernel
theorem dX2_pass_8 : decode cX2_pass 8 = .ok (.invokevirtual 66, 3) := by decide +kernel
theorem dX2_pass_11 : decode cX2_pass 11 = .ok (.aload_n 0, 1) := by decide +kernel
theorem dX2_pass_12 : decode cX2_pass 12 = .ok (.aload_n 0, 1) := by decide +kernel
theorem dX2_pass_13 : decode cX2_pass 13 = .ok (.iload_n 1, 1) := by decide +kernel
theorem dX2_pass_14 : decode cX2_pass 14 = .ok (.invokevirtual 91, 3) := by decide +kernel
theorem dX2_pass_17 : decode cX2_pass 17 = .ok (.invokevirtual 74, 3) := by decide +kernel
theorem dX2_pass_20 : decode cX2_pass 20 = .ok (.ireturn, 1) := by decide +kernel
set_option maxRecDepth 20000 in
theorem ggX2_campOf_X2_isNoCamp : GoodIn wsX2_campOf wsX2_isNoCamp := goodIn_r _ [12] (by decide +kernel) (by decide +kernel)
set_option maxRecDepth 20000 in
theorem gX2_campOf_X2_isNoCamp : GoodIn wsX2_campOf (va_wsS RX2 94 yX2_isNoCamp wsX2_isNoCamp) := goodIn_app (goodIn_of _ (by decide +kernel)) ggX2_campOf_X2_isNoCamp
set_option maxRecDepth 20000 in
theorem ggX2_campOf_X0_lastTerm : GoodIn wsX2_campOf wsX0_lastTerm := goodIn_r _ [17, 18, 19, 34, 35, 36, 37, 38, 39, 40, 41, 42, 43, 44, 45, 46, 47, 48, 49] (by decide +kernel) (by decide +kernel)
set_option maxRecDepth 20000 in
theorem gX2_campOf_X0_lastTerm : GoodIn wsX2_campOf (wsV RX2 120 RX0 yX0_lastTerm wsX0_lastTerm) := goodIn_app (goodIn_of _ (by decide +kernel)) ggX2_campOf_X0_lastTerm
theorem dX2_campOf_0 : decode cX2_campOf 0 = .ok (.iload_n 1, 1) := by decide +kernel
theorem dX2_campOf_1 : decode cX2_campOf 1 = .ok (.invokestatic 94, 3) := by decide +kernel
theorem dX2_campOf_4 : decode cX2_campOf 4 = .ok (.ifCond .eq 5, 3) := by decide +kernel
theorem dX2_campOf_7 : decode cX2_campOf 7 = .ok (.iconst (-1), 1) := by decide +kernel
theorem dX2_campOf_8 : decode cX2_campOf 8 = .ok (.ireturn, 1) := by decide +kernel
theorem dX2_campOf_9 : decode cX2_campOf 9 = .ok (.iload_n 2, 1) := by decide +kernel
theorem dX2_campOf_10 : decode cX2_campOf 10 = .ok (.tableswitch 133 0 8 #[50, 60, 70, 80, 90, 100, 110, 120, 124], 50) := by decide +kernel
theorem dX2_campOf_60 : decode cX2_campOf 60 = .ok (.aload_n 0, 1) := by decide +kernel
theorem dX2_campOf_61 : decode cX2_campOf 61 = .ok (.getfield 10, 3) := by decide +kernel
theorem dX2_campOf_64 : decode cX2_campOf 64 = .ok (.getfield 98, 3) := by decide +kernel
theorem dX2_campOf_67 : decode cX2_campOf 67 = .ok (.iload_n 1, 1) := by decide +kernel
theorem dX2_campOf_68 : decode cX2_campOf 68 = .ok (.iaload, 1) := by decide +kernel
theorem dX2_campOf_69 : decode cX2_campOf 69 = .ok (.ireturn, 1) := by decide +kernel
theorem dX2_campOf_70 : decode cX2_campOf 70 = .ok (.aload_n 0, 1) := by decide +kernel
theorem dX2_campOf_71 : decode cX2_campOf 71 = .ok (.getfield 10, 3) := by decide +kernel
theorem dX2_campOf_74 : decode cX2_campOf 74 = .ok (.getfield 102, 3) := by decide +kernel
theorem dX2_campOf_77 : decode cX2_campOf 77 = .ok (.iload_n 1, 1) := by decide +kernel
theorem dX2_campOf_78 : decode cX2_campOf 78 = .ok (.iaload, 1) := by decide +kernel
theorem dX2_campOf_79 : decode cX2_campOf 79 = .ok (.ireturn, 1) := by decide +kernel
theorem dX2_campOf_80 : decode cX2_campOf 80 = .ok (.aload_n 0, 1) := by decide +kernel
theorem dX2_campOf_81 : decode cX2_campOf 81 = .ok (.getfield 10, 3) := by decide +kernel
theorem dX2_campOf_84 : decode cX2_campOf 84 = .ok (.getfield 105, 3) := by decide +kernel
theorem dX2_campOf_87 : decode cX2_campOf 87 = .ok (.iload_n 1, 1) := by decide +kernel
theorem dX2_campOf_88 : decode cX2_campOf 88 = .ok (.iaload, 1) := by decide +kernel
theorem dX2_campOf_89 : decode cX2_campOf 89 = .ok (.ireturn, 1) := by decide +kernel
theorem dX2_campOf_90 : decode cX2_campOf 90 = .ok (.aload_n 0, 1) := by decide +kernel
theorem dX2_campOf_91 : decode cX2_campOf 91 = .ok (.getfield 10, 3) := by decide +kernel
theorem dX2_campOf_94 : decode cX2_campOf 94 = .ok (.getfield 108, 3) := by decide +kernel
theorem dX2_campOf_97 : decode cX2_campOf 97 = .ok (.iload_n 1, 1) := by decide +kernel
theorem dX2_campOf_98 : decode cX2_campOf 98 = .ok (.iaload, 1) := by decide +kernel
theorem dX2_campOf_99 : decode cX2_campOf 99 = .ok (.ireturn, 1) := by decide +kernel
theorem dX2_campOf_100 : decode cX2_campOf 100 = .ok (.aload_n 0, 1) := by decide +kernel
theorem dX2_campOf_101 : decode cX2_campOf 101 = .ok (.getfield 10, 3) := by decide +kernel
theorem dX2_campOf_104 : decode cX2_campOf 104 = .ok (.getfield 111, 3) := by decide +kernel
theorem dX2_campOf_107 : decode cX2_campOf 107 = .ok (.iload_n 1, 1) := by decide +kernel
theorem dX2_campOf_108 : decode cX2_campOf 108 = .ok (.iaload, 1) := by decide +kernel
theorem dX2_campOf_109 : decode cX2_campOf 109 = .ok (.ireturn, 1) := by decide +kernel
theorem dX2_campOf_110 : decode cX2_campOf 110 = .ok (.aload_n 0, 1) := by decide +kernel
theorem dX2_campOf_111 : decode cX2_campOf 111 = .ok (.getfield 10, 3) := by decide +kernel
theorem dX2_campOf_114 : decode cX2_campOf 114 = .ok (.getfield 114, 3) := by decide +kernel
theorem dX2_campOf_117 : decode cX2_campOf 117 = .ok (.iload_n 1, 1) := by decide +kernel
theorem dX2_campOf_118 : decode cX2_campOf 118 = .ok (.iaload, 1) := by decide +kernel
theorem dX2_campOf_119 : decode cX2_campOf 119 = .ok (.ireturn, 1) := by decide +kernel
theorem dX2_campOf_120 : decode cX2_campOf 120 = .ok (.aload_n 0, 1) := by decide +kernel
theorem dX2_campOf_121 : decode cX2_campOf 121 = .ok (.getfield 10, 3) := by decide +kernel
theorem dX2_campOf_124 : decode cX2_campOf 124 = .ok (.getfield 117, 3) := by decide +kernel
theorem dX2_campOf_127 : decode cX2_campOf 127 = .ok (.iload_n 1, 1) := by decide +kernel
theorem dX2_campOf_128 : decode cX2_campOf 128 = .ok (.iaload, 1) := by decide +kernel
theorem dX2_campOf_129 : decode cX2_campOf 129 = .ok (.ireturn, 1) := by decide +kernel
theorem dX2_campOf_130 : decode cX2_campOf 130 = .ok (.iconst 3, 1) := by decide +kernel
theorem dX2_campOf_131 : decode cX2_campOf 131 = .ok (.iload_n 1, 1) := by decide +kernel
theorem dX2_campOf_132 : decode cX2_campOf 132 = .ok (.iadd, 1) := by decide +kernel
theorem dX2_campOf_133 : decode cX2_campOf 133 = .ok (.ireturn, 1) := by decide +kernel
theorem dX2_campOf_134 : decode cX2_campOf 134 = .ok (.aload_n 0, 1) := by decide +kernel
theorem dX2_campOf_135 : decode cX2_campOf 135 = .ok (.getfield 10, 3) := by decide +kernel
theorem dX2_campOf_138 : decode cX2_campOf 138 = .ok (.iload_n 1, 1) := by decide +kernel
theorem dX2_campOf_139 : decode cX2_campOf 139 = .ok (.invokevirtual 120, 3) := by decide +kernel
theorem dX2_campOf_142 : decode cX2_campOf 142 = .ok (.ireturn, 1) := by decide +kernel
theorem dX2_campOf_143 : decode cX2_campOf 143 = .ok (.bipush (-2), 2) := by decide +kernel
theorem dX2_campOf_145 : decode cX2_campOf 145 = .ok (.ireturn, 1) := by decide +kernel
set_option maxRecDepth 20000 in
theorem ggX2_pageOf_X2_isNoPage : GoodIn wsX2_pageOf wsX2_isNoPage := goodIn_r _ [8, 1, 9, 10, 11, 7, 12, 13, 14, 15, 16, 17, 18, 19, 20, 21, 22, 23, 24, 25, 26, 27, 28, 29, 30, 31, 32, 33, 34, 35, 36, 37, 38, 39, 40, 41, 42] (by decide +kernel) (by decide +kernel)
set_option maxRecDepth 20000 in
theorem gX2_pageOf_X2_isNoPage : GoodIn wsX2_pageOf (wsV RX2 123 RX2 yX2_isNoPage wsX2_isNoPage) := goodIn_app (goodIn_of _ (by decide +kernel)) ggX2_pageOf_X2_isNoPage
theorem dX2_pageOf_0 : decode cX2_pageOf 0 = .ok (.aload_n 0, 1) := by decide +kernel
theorem dX2_pageOf_1 : decode cX2_pageOf 1 = .ok (.iload_n 1, 1) := by decide +kernel
theorem dX2_pageOf_2 : decode cX2_pageOf 2 = .ok (.iload_n 2, 1) := by decide +kernel
theorem dX2_pageOf_3 : decode cX2_pageOf 3 = .ok (.invokevirtual 123, 3) := by decide +kernel
theorem dX2_pageOf_6 : decode cX2_pageOf 6 = .ok (.ifCond .eq 5, 3) := by decide +kernel
theorem dX2_pageOf_9 : decode cX2_pageOf 9 = .ok (.iconst (-1), 1) := by decide +kernel
theorem dX2_pageOf_10 : decode cX2_pageOf 10 = .ok (.ireturn, 1) := by decide +kernel
theorem dX2_pageOf_11 : decode cX2_pageOf 11 = .ok (.iload_n 3, 1) := by decide +kernel
theorem dX2_pageOf_12 : decode cX2_pageOf 12 = .ok (.lookupswitch 58 #[(0, 28), (1, 43)], 28) := by decide +kernel
theorem dX2_pageOf_40 : decode cX2_pageOf 40 = .ok (.aload_n 0, 1) := by decide +kernel
theorem dX2_pageOf_41 : decode cX2_pageOf 41 = .ok (.getfield 10, 3) := by decide +kernel
theorem dX2_pageOf_44 : decode cX2_pageOf 44 = .ok (.getfield 127, 3) := by decide +kernel
theorem dX2_pageOf_47 : decode cX2_pageOf 47 = .ok (.iload_n 1, 1) := by decide +kernel
theorem dX2_pageOf_48 : decode cX2_pageOf 48 = .ok (.bipush 12, 2) := by decide +kernel
theorem dX2_pageOf_50 : decode cX2_pageOf 50 = .ok (.imul, 1) := by decide +kernel
theorem dX2_pageOf_51 : decode cX2_pageOf 51 = .ok (.iload_n 2, 1) := by decide +kernel
theorem dX2_pageOf_52 : decode cX2_pageOf 52 = .ok (.iadd, 1) := by decide +kernel
theorem dX2_pageOf_53 : decode cX2_pageOf 53 = .ok (.iaload, 1) := by decide +kernel
theorem dX2_pageOf_54 : decode cX2_pageOf 54 = .ok (.ireturn, 1) := by decide +kernel
theorem dX2_pageOf_55 : decode cX2_pageOf 55 = .ok (.aload_n 0, 1) := by decide +kernel
theorem dX2_pageOf_56 : decode cX2_pageOf 56 = .ok (.getfield 10, 3) := by decide +kernel
theorem dX2_pageOf_59 : decode cX2_pageOf 59 = .ok (.getfield 130, 3) := by decide +kernel
theorem dX2_pageOf_62 : decode cX2_pageOf 62 = .ok (.iload_n 1, 1) := by decide +kernel
theorem dX2_pageOf_63 : decode cX2_pageOf 63 = .ok (.bipush 12, 2) := by decide +kernel
theorem dX2_pageOf_65 : decode cX2_pageOf 65 = .ok (.imul, 1) := by decide +kernel
theorem dX2_pageOf_66 : decode cX2_pageOf 66 = .ok (.iload_n 2, 1) := by decide +kernel
theorem dX2_pageOf_67 : decode cX2_pageOf 67 = .ok (.iadd, 1) := by decide +kernel
theorem dX2_pageOf_68 : decode cX2_pageOf 68 = .ok (.iaload, 1) := by decide +kernel
theorem dX2_pageOf_69 : decode cX2_pageOf 69 = .ok (.ireturn, 1) := by decide +kernel
theorem dX2_pageOf_70 : decode cX2_pageOf 70 = .ok (.bipush (-2), 2) := by decide +kernel
theorem dX2_pageOf_72 : decode cX2_pageOf 72 = .ok (.ireturn, 1) := by decide +kernel
set_option maxRecDepth 20000 in
theorem ggX2_reaches_X2_isNoCamp : GoodIn wsX2_reaches wsX2_isNoCamp := goodIn_r _ [5] (by decide +kernel) (by decide +kernel)
set_option maxRecDepth 20000 in
theorem gX2_reaches_X2_isNoCamp : GoodIn wsX2_reaches (va_wsS RX2 94 yX2_isNoCamp wsX2_isNoCamp) := goodIn_app (goodIn_of _ (by decide +kernel)) ggX2_reaches_X2_isNoCamp
set_option maxRecDepth 20000 in
theorem ggX2_reaches_X0_isReached : GoodIn wsX2_reaches wsX0_isReached := goodIn_r _ [10, 11, 12, 27, 28, 29, 30, 31, 32, 33, 34, 35, 36, 37, 38, 39, 40, 41, 42] (by decide +kernel) (by decide +kernel)
set_option maxRecDepth 20000 in
theorem gX2_reaches_X0_isReached : GoodIn wsX2_reaches (wsV RX2 133 RX0 yX0_isReached wsX0_isReached) := goodIn_app (goodIn_of _ (by decide +kernel)) ggX2_reaches_X0_isReached
theorem dX2_reaches_0 : decode cX2_reaches 0 = .ok (.iload_n 1, 1) := by decide +kernel
theorem dX2_reaches_1 : decode cX2_reaches 1 = .ok (.invokestatic 94, 3) := by decide +kernel
theorem dX2_reaches_4 : decode cX2_reaches 4 = .ok (.ifCond .ne 10, 3) := by decide +kernel
theorem dX2_reaches_7 : decode cX2_reaches 7 = .ok (.iload_n 2, 1) := by decide +kernel
theorem dX2_reaches_8 : decode cX2_reaches 8 = .ok (.invokestatic 94, 3) := by decide +kernel
theorem dX2_reaches_11 : decode cX2_reaches 11 = .ok (.ifCond .eq 5, 3) := by decide +kernel
theorem dX2_reaches_14 : decode cX2_reaches 14 = .ok (.iconst (-1), 1) := by decide +kernel
theorem dX2_reaches_15 : decode cX2_reaches 15 = .ok (.ireturn, 1) := by decide +kernel
theorem dX2_reaches_16 : decode cX2_reaches 16 = .ok (.aload_n 0, 1) := by decide +kernel
theorem dX2_reaches_17 : decode cX2_reaches 17 = .ok (.getfield 10, 3) := by decide +kernel
theorem dX2_reaches_20 : decode cX2_reaches 20 = .ok (.iload_n 1, 1) := by decide +kernel
theorem dX2_reaches_21 : decode cX2_reaches 21 = .ok (.iload_n 2, 1) := by decide +kernel
theorem dX2_reaches_22 : decode cX2_reaches 22 = .ok (.invokevirtual 133, 3) := by decide +kernel
theorem dX2_reaches_25 : decode cX2_reaches 25 = .ok (.ifCond .eq 7, 3) := by decide +kernel
theorem dX2_reaches_28 : decode cX2_reaches 28 = .ok (.iconst 1, 1) := by decide +kernel
theorem dX2_reaches_29 : decode cX2_reaches 29 = .ok (.goto 4, 3) := by decide +kernel
theorem dX2_reaches_32 : decode cX2_reaches 32 = .ok (.iconst 0, 1) := by decide +kernel
theorem dX2_reaches_33 : decode cX2_reaches 33 = .ok (.ireturn, 1) := by decide +kernel
set_option maxRecDepth 20000 in
theorem ggX2_matches_X2_isNoCamp : GoodIn wsX2_matches wsX2_isNoCamp := goodIn_r _ [5] (by decide +kernel) (by decide +kernel)
set_option maxRecDepth 20000 in
theorem gX2_matches_X2_isNoCamp : GoodIn wsX2_matches (va_wsS RX2 94 yX2_isNoCamp wsX2_isNoCamp) := goodIn_app (goodIn_of _ (by decide +kernel)) ggX2_matches_X2_isNoCamp
set_option maxRecDepth 20000 in
theorem ggX2_matches_X0_pagesAlike : GoodIn wsX2_matches wsX0_pagesAlike := goodIn_r _ [10, 11, 12, 13, 28, 29, 30, 31, 32, 33, 34, 35, 36, 37, 38, 39, 40, 41, 42, 43] (by decide +kernel) (by decide +kernel)
set_option maxRecDepth 20000 in
theorem gX2_matches_X0_pagesAlike : GoodIn wsX2_matches (wsV RX2 136 RX0 yX0_pagesAlike wsX0_pagesAlike) := goodIn_app (goodIn_of _ (by decide +kernel)) ggX2_matches_X0_pagesAlike
theorem dX2_matches_0 : decode cX2_matches 0 = .ok (.iload_n 1, 1) := by decide +kernel
theorem dX2_matches_1 : decode cX2_matches 1 = .ok (.invokestatic 94, 3) := by decide +kernel
theorem dX2_matches_4 : decode cX2_matches 4 = .ok (.ifCond .ne 10, 3) := by decide +kernel
theorem dX2_matches_7 : decode cX2_matches 7 = .ok (.iload_n 2, 1) := by decide +kernel
theorem dX2_matches_8 : decode cX2_matches 8 = .ok (.invokestatic 94, 3) := by decide +kernel
theorem dX2_matches_11 : decode cX2_matches 11 = .ok (.ifCond .eq 5, 3) := by decide +kernel
theorem dX2_matches_14 : decode cX2_matches 14 = .ok (.iconst (-1), 1) := by decide +kernel
theorem dX2_matches_15 : decode cX2_matches 15 = .ok (.ireturn, 1) := by decide +kernel
theorem dX2_matches_16 : decode cX2_matches 16 = .ok (.aload_n 0, 1) := by decide +kernel
theorem dX2_matches_17 : decode cX2_matches 17 = .ok (.getfield 10, 3) := by decide +kernel
theorem dX2_matches_20 : decode cX2_matches 20 = .ok (.iload_n 1, 1) := by decide +kernel
theorem dX2_matches_21 : decode cX2_matches 21 = .ok (.iload_n 2, 1) := by decide +kernel
theorem dX2_matches_22 : decode cX2_matches 22 = .ok (.invokevirtual 136, 3) := by decide +kernel
theorem dX2_matches_25 : decode cX2_matches 25 = .ok (.ireturn, 1) := by decide +kernel
set_option maxRecDepth 20000 in
theorem ggX2_matchesAgain_X2_isNoCamp : GoodIn wsX2_matchesAgain wsX2_isNoCamp := goodIn_r _ [5] (by decide +kernel) (by decide +kernel)
set_option maxRecDepth 20000 in
theorem gX2_matchesAgain_X2_isNoCamp : GoodIn wsX2_matchesAgain (va_wsS RX2 94 yX2_isNoCamp wsX2_isNoCamp) := goodIn_app (goodIn_of _ (by decide +kernel)) ggX2_matchesAgain_X2_isNoCamp
set_option maxRecDepth 20000 in
theorem ggX2_matchesAgain_X0_pagesAlikeByHalves : GoodIn wsX2_matchesAgain wsX0_pagesAlikeByHalves := goodIn_r _ [10, 11, 12, 13, 14, 15, 16, 31, 32, 33, 34, 35, 36, 37, 38, 39, 40, 41, 42, 43, 44, 45, 46] (by decide +kernel) (by decide +kernel)
set_option maxRecDepth 20000 in
theorem gX2_matchesAgain_X0_pagesAlikeByHalves : GoodIn wsX2_matchesAgain (wsV RX2 139 RX0 yX0_pagesAlikeByHalves wsX0_pagesAlikeByHalves) := goodIn_app (goodIn_of _ (by decide +kernel)) ggX2_matchesAgain_X0_pagesAlikeByHalves
theorem dX2_matchesAgain_0 : decode cX2_matchesAgain 0 = .ok (.iload_n 1, 1) := by decide +kernel
theorem dX2_matchesAgain_1 : decode cX2_matchesAgain 1 = .ok (.invokestatic 94, 3) := by decide +kernel
theorem dX2_matchesAgain_4 : decode cX2_matchesAgain 4 = .ok (.ifCond .ne 10, 3) := by decide +kernel
theorem dX2_matchesAgain_7 : decode cX2_matchesAgain 7 = .ok (.iload_n 2, 1) := by decide +kernel
theorem dX2_matchesAgain_8 : decode cX2_matchesAgain 8 = .ok (.invokestatic 94, 3) := by decide +kernel
theorem dX2_matchesAgain_11 : decode cX2_matchesAgain 11 = .ok (.ifCond .eq 5, 3) := by decide +kernel
theorem dX2_matchesAgain_14 : decode cX2_matchesAgain 14 = .ok (.iconst (-1), 1) := by decide +kernel
theorem dX2_matchesAgain_15 : decode cX2_matchesAgain 15 = .ok (.ireturn, 1) := by decide +kernel
theorem dX2_matchesAgain_16 : decode cX2_matchesAgain 16 = .ok (.aload_n 0, 1) := by decide +kernel
theorem dX2_matchesAgain_17 : decode cX2_matchesAgain 17 = .ok (.getfield 10, 3) := by decide +kernel
theorem dX2_matchesAgain_20 : decode cX2_matchesAgain 20 = .ok (.iload_n 1, 1) := by decide +kernel
theorem dX2_matchesAgain_21 : decode cX2_matchesAgain 21 = .ok (.iload_n 2, 1) := by decide +kernel
theorem dX2_matchesAgain_22 : decode cX2_matchesAgain 22 = .ok (.invokevirtual 139, 3) := by decide +kernel
theorem dX2_matchesAgain_25 : decode cX2_matchesAgain 25 = .ok (.ireturn, 1) := by decide +kernel
set_option maxRecDepth 20000 in
theorem ggX2_captain_X0_greatestCaptain : GoodIn wsX2_captain wsX0_greatestCaptain := goodIn_r _ [6, 7, 8, 23, 24, 25, 26, 27, 28, 29, 30, 31, 32, 33, 34, 35, 36, 37, 38] (by decide +kernel) (by decide +kernel)
set_option maxRecDepth 20000 in
theorem gX2_captain_X0_greatestCaptain : GoodIn wsX2_captain (wsV RX2 142 RX0 yX0_greatestCaptain wsX0_greatestCaptain) := goodIn_app (goodIn_of _ (by decide +kernel)) ggX2_captain_X0_greatestCaptain
theorem dX2_captain_0 : decode cX2_captain 0 = .ok (.aload_n 0, 1) := by decide +kernel
theorem dX2_captain_1 : decode cX2_captain 1 = .ok (.getfield 10, 3) := by decide +kernel
theorem dX2_captain_4 : decode cX2_captain 4 = .ok (.invokevirtual 142, 3) := by decide +kernel
theorem dX2_captain_7 : decode cX2_captain 7 = .ok (.ireturn, 1) := by decide +kernel
set_option maxRecDepth 20000 in
theorem ggX2_holders_X2_isNoPage : GoodIn wsX2_holders wsX2_isNoPage := goodIn_r _ [6, 1, 7, 8, 9, 5, 10, 23, 24, 25, 26, 27, 28, 29, 30, 31, 32, 33, 34, 35, 36, 37, 38, 39, 40, 41, 42, 43, 44, 45, 46, 47, 48, 49, 50, 51, 52] (by decide +kernel) (by decide +kernel)
set_option maxRecDepth 20000 in
theorem gX2_holders_X2_isNoPage : GoodIn wsX2_holders (wsV RX2 123 RX2 yX2_isNoPage wsX2_isNoPage) := goodIn_app (goodIn_of _ (by decide +kernel)) ggX2_holders_X2_isNoPage
set_option maxRecDepth 20000 in
theorem ggX2_holders_X0_campsAlike : GoodIn wsX2_holders wsX0_campsAlike := goodIn_r _ [15, 16, 17, 18, 14, 19, 20, 21, 22, 37, 38, 39, 40, 41, 42, 43, 44, 45, 46, 47, 48, 49, 50, 51, 52] (by decide +kernel) (by decide +kernel)
set_option maxRecDepth 20000 in
theorem gX2_holders_X0_campsAlike : GoodIn wsX2_holders (wsV RX2 146 RX0 yX0_campsAlike wsX0_campsAlike) := goodIn_app (goodIn_of _ (by decide +kernel)) ggX2_holders_X0_campsAlike
theorem dX2_holders_0 : decode cX2_holders 0 = .ok (.aload_n 0, 1) := by decide +kernel
theorem dX2_holders_1 : decode cX2_holders 1 = .ok (.iload_n 1, 1) := by decide +kernel
theorem dX2_holders_2 : decode cX2_holders 2 = .ok (.iload_n 2, 1) := by decide +kernel
theorem dX2_holders_3 : decode cX2_holders 3 = .ok (.invokevirtual 123, 3) := by decide +kernel
theorem dX2_holders_6 : decode cX2_holders 6 = .ok (.ifCond .eq 5, 3) := by decide +kernel
theorem dX2_holders_9 : decode cX2_holders 9 = .ok (.iconst (-1), 1) := by decide +kernel
theorem dX2_holders_10 : decode cX2_holders 10 = .ok (.ireturn, 1) := by decide +kernel
theorem dX2_holders_11 : decode cX2_holders 11 = .ok (.aload_n 0, 1) := by decide +kernel
theorem dX2_holders_12 : decode cX2_holders 12 = .ok (.getfield 10, 3) := by decide +kernel
theorem dX2_holders_15 : decode cX2_holders 15 = .ok (.iload_n 1, 1) := by decide +kernel
theorem dX2_holders_16 : decode cX2_holders 16 = .ok (.iload_n 2, 1) := by decide +kernel
theorem dX2_holders_17 : decode cX2_holders 17 = .ok (.iconst 1, 1) := by decide +kernel
theorem dX2_holders_18 : decode cX2_holders 18 = .ok (.iadd, 1) := by decide +kernel
theorem dX2_holders_19 : decode cX2_holders 19 = .ok (.invokevirtual 146, 3) := by decide +kernel
theorem dX2_holders_22 : decode cX2_holders 22 = .ok (.ireturn, 1) := by decide +kernel
set_option maxRecDepth 20000 in
theorem ggX2_letters_X2_isNoLetter : GoodIn wsX2_letters wsX2_isNoLetter := goodIn_r _ [5] (by decide +kernel) (by decide +kernel)
set_option maxRecDepth 20000 in
theorem gX2_letters_X2_isNoLetter : GoodIn wsX2_letters (va_wsS RX2 149 yX2_isNoLetter wsX2_isNoLetter) := goodIn_app (goodIn_of _ (by decide +kernel)) ggX2_letters_X2_isNoLetter
set_option maxRecDepth 20000 in
theorem ggX2_letters_X0_settledPagesWith : GoodIn wsX2_letters wsX0_settledPagesWith := goodIn_r _ [10, 11, 12, 27, 28, 29, 30, 31, 32, 33, 34, 35, 36, 37, 38, 39, 40, 41, 42] (by decide +kernel) (by decide +kernel)
set_option maxRecDepth 20000 in
theorem gX2_letters_X0_settledPagesWith : GoodIn wsX2_letters (wsV RX2 152 RX0 yX0_settledPagesWith wsX0_settledPagesWith) := goodIn_app (goodIn_of _ (by decide +kernel)) ggX2_letters_X0_settledPagesWith
theorem dX2_letters_0 : decode cX2_letters 0 = .ok (.iload_n 1, 1) := by decide +kernel
theorem dX2_letters_1 : decode cX2_letters 1 = .ok (.invokestatic 149, 3) := by decide +kernel
theorem dX2_letters_4 : decode cX2_letters 4 = .ok (.ifCond .eq 5, 3) := by decide +kernel
theorem dX2_letters_7 : decode cX2_letters 7 = .ok (.iconst (-1), 1) := by decide +kernel
theorem dX2_letters_8 : decode cX2_letters 8 = .ok (.ireturn, 1) := by decide +kernel
theorem dX2_letters_9 : decode cX2_letters 9 = .ok (.aload_n 0, 1) := by decide +kernel
theorem dX2_letters_10 : decode cX2_letters 10 = .ok (.getfield 10, 3) := by decide +kernel
theorem dX2_letters_13 : decode cX2_letters 13 = .ok (.iload_n 1, 1) := by decide +kernel
theorem dX2_letters_14 : decode cX2_letters 14 = .ok (.invokevirtual 152, 3) := by decide +kernel
theorem dX2_letters_17 : decode cX2_letters 17 = .ok (.ireturn, 1) := by decide +kernel
set_option maxRecDepth 20000 in
theorem ggX2_would_X2_isNoCamp : GoodIn wsX2_would wsX2_isNoCamp := goodIn_r _ [8] (by decide +kernel) (by decide +kernel)
set_option maxRecDepth 20000 in
theorem gX2_would_X2_isNoCamp : GoodIn wsX2_would (va_wsS RX2 94 yX2_isNoCamp wsX2_isNoCamp) := goodIn_app (goodIn_of _ (by decide +kernel)) ggX2_would_X2_isNoCamp
set_option maxRecDepth 20000 in
theorem ggX2_would_X0_copyFrom : GoodIn wsX2_would wsX0_copyFrom := goodIn_r _ [13, 14, 15, 16, 17, 18, 19, 20, 21, 22, 23, 24, 25, 26, 27, 28, 29, 30, 31, 32, 33, 68, 69, 70, 71, 72, 73, 74, 75, 76, 77, 78, 79, 80, 81, 82, 83] (by decide +kernel) (by decide +kernel)
set_option maxRecDepth 20000 in
theorem gX2_would_X0_copyFrom : GoodIn wsX2_would (wsV RX2 66 RX0 yX0_copyFrom wsX0_copyFrom) := goodIn_app (goodIn_of _ (by decide +kernel)) ggX2_would_X0_copyFrom
set_option maxRecDepth 20000 in
theorem ggX2_would_X0_askForVotes : GoodIn wsX2_would wsX0_askForVotes := goodIn_r _ [37, 28, 14, 19, 22, 20, 29, 38, 39, 40, 12, 41, 21, 27, 42, 43, 44, 45, 46, 47, 48, 49, 23, 50, 51, 52, 53, 25, 68, 69, 70, 71, 72, 73, 74, 75, 76, 77, 78, 79, 80, 81, 82, 83] (by decide +kernel) (by decide +kernel)
set_option maxRecDepth 20000 in
theorem gX2_would_X0_askForVotes : GoodIn wsX2_would (wsV RX2 155 RX0 yX0_askForVotes wsX0_askForVotes) := goodIn_app (goodIn_of _ (by decide +kernel)) ggX2_would_X0_askForVotes
theorem dX2_would_0 : decode cX2_would 0 = .ok (.iload_n 1, 1) := by decide +kernel
theorem dX2_would_1 : decode cX2_would 1 = .ok (.invokestatic 94, 3) := by decide +kernel
theorem dX2_would_4 : decode cX2_would 4 = .ok (.ifCond .eq 5, 3) := by decide +kernel
theorem dX2_would_7 : decode cX2_would 7 = .ok (.iconst (-1), 1) := by decide +kernel
theorem dX2_would_8 : decode cX2_would 8 = .ok (.ireturn, 1) := by decide +kernel
theorem dX2_would_9 : decode cX2_would 9 = .ok (.aload_n 0, 1) := by decide +kernel
theorem dX2_would_10 : decode cX2_would 10 = .ok (.getfield 10, 3) := by decide +kernel
theorem dX2_would_13 : decode cX2_would 13 = .ok (.getfield 108, 3) := by decide +kernel
theorem dX2_would_16 : decode cX2_would 16 = .ok (.iload_n 1, 1) := by decide +kernel
theorem dX2_would_17 : decode cX2_would 17 = .ok (.iaload, 1) := by decide +kernel
theorem dX2_would_18 : decode cX2_would 18 = .ok (.ifCond .eq 16, 3) := by decide +kernel
theorem dX2_would_21 : decode cX2_would 21 = .ok (.aload_n 0, 1) := by decide +kernel
theorem dX2_would_22 : decode cX2_would 22 = .ok (.getfield 10, 3) := by decide +kernel
theorem dX2_would_25 : decode cX2_would 25 = .ok (.getfield 105, 3) := by decide +kernel
theorem dX2_would_28 : decode cX2_would 28 = .ok (.iload_n 1, 1) := by decide +kernel
theorem dX2_would_29 : decode cX2_would 29 = .ok (.iaload, 1) := by decide +kernel
theorem dX2_would_30 : decode cX2_would 30 = .ok (.iconst 1, 1) := by decide +kernel
theorem dX2_would_31 : decode cX2_would 31 = .ok (.if_icmp .ne 6, 3) := by decide +kernel
theorem dX2_would_34 : decode cX2_would 34 = .ok (.bipush (-4), 2) := by decide +kernel
theorem dX2_would_36 : decode cX2_would 36 = .ok (.ireturn, 1) := by decide +kernel
theorem dX2_would_37 : decode cX2_would 37 = .ok (.aload_n 0, 1) := by decide +kernel
theorem dX2_would_38 : decode cX2_would 38 = .ok (.getfield 19, 3) := by decide +kernel
theorem dX2_would_41 : decode cX2_would 41 = .ok (.aload_n 0, 1) := by decide +kernel
theorem dX2_would_42 : decode cX2_would 42 = .ok (.getfield 10, 3) := by decide +kernel
theorem dX2_would_45 : decode cX2_would 45 = .ok (.invokevirtual 66, 3) := by decide +kernel
theorem dX2_would_48 : decode cX2_would 48 = .ok (.aload_n 0, 1) := by decide +kernel
theorem dX2_would_49 : decode cX2_would 49 = .ok (.getfield 19, 3) := by decide +kernel
theorem dX2_would_52 : decode cX2_would 52 = .ok (.iload_n 1, 1) := by decide +kernel
theorem dX2_would_53 : decode cX2_would 53 = .ok (.invokevirtual 155, 3) := by decide +kernel
theorem dX2_would_56 : decode cX2_would 56 = .ok (.ireturn, 1) := by decide +kernel
set_option maxRecDepth 20000 in
theorem ggX2_captainIn_X0_copyFrom : GoodIn wsX2_captainIn wsX0_copyFrom := goodIn_r _ [7, 8, 9, 10, 11, 12, 13, 14, 15, 16, 17, 18, 19, 20, 21, 22, 23, 24, 25, 26, 27, 98, 99, 100, 101, 102, 103, 104, 105, 106, 107, 108, 109, 110, 111, 112, 113] (by decide +kernel) (by decide +kernel)
set_option maxRecDepth 20000 in
theorem gX2_captainIn_X0_copyFrom : GoodIn wsX2_captainIn (wsV RX2 66 RX0 yX0_copyFrom wsX0_copyFrom) := goodIn_app (goodIn_of _ (by decide +kernel)) ggX2_captainIn_X0_copyFrom
set_option maxRecDepth 20000 in
theorem ggX2_captainIn_X0_hasForemostCaptain : GoodIn wsX2_captainIn wsX0_hasForemostCaptain := goodIn_r _ [31, 15, 8, 32, 33, 34, 6, 35, 14, 98, 99, 100, 101, 102, 103, 104, 105, 106, 107, 108, 109, 110, 111, 112, 113] (by decide +kernel) (by decide +kernel)
set_option maxRecDepth 20000 in
theorem gX2_captainIn_X0_hasForemostCaptain : GoodIn wsX2_captainIn (wsV RX2 158 RX0 yX0_hasForemostCaptain wsX0_hasForemostCaptain) := goodIn_app (goodIn_of _ (by decide +kernel)) ggX2_captainIn_X0_hasForemostCaptain
set_option maxRecDepth 20000 in
theorem ggX2_captainIn_X0_letHourGoBy : GoodIn wsX2_captainIn wsX0_letHourGoBy := goodIn_r _ [39, 27, 14, 16, 40, 41, 42, 6, 43, 26, 8, 44, 45, 46, 47, 15, 21, 48, 49, 50, 51, 13, 52, 53, 54, 55, 17, 25, 19, 20, 56, 57, 58, 59, 60, 61, 62, 63, 64, 65, 66, 67, 18, 68, 69, 70, 71, 72, 73, 74, 75, 76, 77, 78, 79, 22, 23, 80, 81, 82, 83, 98, 99, 100, 101, 102, 103, 104, 105, 106, 107, 108, 109, 110, 111, 112, 113] (by decide +kernel) (by decide +kernel)
set_option maxRecDepth 20000 in
theorem gX2_captainIn_X0_letHourGoBy : GoodIn wsX2_captainIn (wsV RX2 162 RX0 yX0_letHourGoBy wsX0_letHourGoBy) := goodIn_app (goodIn_of _ (by decide +kernel)) ggX2_captainIn_X0_letHourGoBy
theorem dX2_captainIn_0 : decode cX2_captainIn 0 = .ok (.aload_n 0, 1) := by decide +kernel
theorem dX2_captainIn_1 : decode cX2_captainIn 1 = .ok (.getfield 19, 3) := by decide +kernel
theorem dX2_captainIn_4 : decode cX2_captainIn 4 = .ok (.aload_n 0, 1) := by decide +kernel
theorem dX2_captainIn_5 : decode cX2_captainIn 5 = .ok (.getfield 10, 3) := by decide +kernel
theorem dX2_captainIn_8 : decode cX2_captainIn 8 = .ok (.invokevirtual 66, 3) := by decide +kernel
theorem dX2_captainIn_11 : decode cX2_captainIn 11 = .ok (.iconst 0, 1) := by decide +kernel
theorem dX2_captainIn_12 : decode cX2_captainIn 12 = .ok (.istore_n 1, 1) := by decide +kernel
theorem dX2_captainIn_13 : decode cX2_captainIn 13 = .ok (.iload_n 1, 1) := by decide +kernel
theorem dX2_captainIn_14 : decode cX2_captainIn 14 = .ok (.bipush 60, 2) := by decide +kernel
theorem dX2_captainIn_16 : decode cX2_captainIn 16 = .ok (.if_icmp .ge 28, 3) := by decide +kernel
theorem dX2_captainIn_19 : decode cX2_captainIn 19 = .ok (.aload_n 0, 1) := by decide +kernel
theorem dX2_captainIn_20 : decode cX2_captainIn 20 = .ok (.getfield 19, 3) := by decide +kernel
theorem dX2_captainIn_23 : decode cX2_captainIn 23 = .ok (.invokevirtual 158, 3) := by decide +kernel
theorem dX2_captainIn_26 : decode cX2_captainIn 26 = .ok (.ifCond .eq 5, 3) := by decide +kernel
theorem dX2_captainIn_29 : decode cX2_captainIn 29 = .ok (.iload_n 1, 1) := by decide +kernel
theorem dX2_captainIn_30 : decode cX2_captainIn 30 = .ok (.ireturn, 1) := by decide +kernel
theorem dX2_captainIn_31 : decode cX2_captainIn 31 = .ok (.aload_n 0, 1) := by decide +kernel
theorem dX2_captainIn_32 : decode cX2_captainIn 32 = .ok (.getfield 19, 3) := by decide +kernel
theorem dX2_captainIn_35 : decode cX2_captainIn 35 = .ok (.invokevirtual 162, 3) := by decide +kernel
theorem dX2_captainIn_38 : decode cX2_captainIn 38 = .ok (.iinc 1 1, 3) := by decide +kernel
theorem dX2_captainIn_41 : decode cX2_captainIn 41 = .ok (.goto (-28), 3) := by decide +kernel
theorem dX2_captainIn_44 : decode cX2_captainIn 44 = .ok (.aload_n 0, 1) := by decide +kernel
theorem dX2_captainIn_45 : decode cX2_captainIn 45 = .ok (.getfield 19, 3) := by decide +kernel
theorem dX2_captainIn_48 : decode cX2_captainIn 48 = .ok (.invokevirtual 158, 3) := by decide +kernel
theorem dX2_captainIn_51 : decode cX2_captainIn 51 = .ok (.ifCond .eq 8, 3) := by decide +kernel
theorem dX2_captainIn_54 : decode cX2_captainIn 54 = .ok (.bipush 60, 2) := by decide +kernel
theorem dX2_captainIn_56 : decode cX2_captainIn 56 = .ok (.goto 5, 3) := by decide +kernel
theorem dX2_captainIn_59 : decode cX2_captainIn 59 = .ok (.bipush (-4), 2) := by decide +kernel
theorem dX2_captainIn_61 : decode cX2_captainIn 61 = .ok (.ireturn, 1) := by decide +kernel
set_option maxRecDepth 20000 in
theorem ggX2_ranked_X0_campsAheadOf : GoodIn wsX2_ranked wsX0_campsAheadOf := goodIn_r _ [6, 7, 8, 9, 5, 10, 11, 12, 13, 14, 15, 16, 17, 18, 19, 20, 21, 36, 37, 38, 39, 40, 41, 42, 43, 44, 45, 46, 47, 48, 49, 50, 51] (by decide +kernel) (by decide +kernel)
set_option maxRecDepth 20000 in
theorem gX2_ranked_X0_campsAheadOf : GoodIn wsX2_ranked (wsV RX2 165 RX0 yX0_campsAheadOf wsX0_campsAheadOf) := goodIn_app (goodIn_of _ (by decide +kernel)) ggX2_ranked_X0_campsAheadOf
theorem dX2_ranked_0 : decode cX2_ranked 0 = .ok (.iconst 0, 1) := by decide +kernel
theorem dX2_ranked_1 : decode cX2_ranked 1 = .ok (.istore_n 2, 1) := by decide +kernel
theorem dX2_ranked_2 : decode cX2_ranked 2 = .ok (.iload_n 2, 1) := by decide +kernel
theorem dX2_ranked_3 : decode cX2_ranked 3 = .ok (.iconst 5, 1) := by decide +kernel
theorem dX2_ranked_4 : decode cX2_ranked 4 = .ok (.if_icmp .ge 23, 3) := by decide +kernel
theorem dX2_ranked_7 : decode cX2_ranked 7 = .ok (.aload_n 0, 1) := by decide +kernel
theorem dX2_ranked_8 : decode cX2_ranked 8 = .ok (.getfield 10, 3) := by decide +kernel
theorem dX2_ranked_11 : decode cX2_ranked 11 = .ok (.iload_n 2, 1) := by decide +kernel
theorem dX2_ranked_12 : decode cX2_ranked 12 = .ok (.invokevirtual 165, 3) := by decide +kernel
theorem dX2_ranked_15 : decode cX2_ranked 15 = .ok (.iload_n 1, 1) := by decide +kernel
theorem dX2_ranked_16 : decode cX2_ranked 16 = .ok (.if_icmp .ne 5, 3) := by decide +kernel
theorem dX2_ranked_19 : decode cX2_ranked 19 = .ok (.iload_n 2, 1) := by decide +kernel
theorem dX2_ranked_20 : decode cX2_ranked 20 = .ok (.ireturn, 1) := by decide +kernel
theorem dX2_ranked_21 : decode cX2_ranked 21 = .ok (.iinc 2 1, 3) := by decide +kernel
theorem dX2_ranked_24 : decode cX2_ranked 24 = .ok (.goto (-22), 3) := by decide +kernel
theorem dX2_ranked_27 : decode cX2_ranked 27 = .ok (.iconst (-1), 1) := by decide +kernel
theorem dX2_ranked_28 : decode cX2_ranked 28 = .ok (.ireturn, 1) := by decide +kernel
set_option maxRecDepth 20000 in
theorem ggX2_describe_X2_isNoCamp : GoodIn wsX2_describe wsX2_isNoCamp := goodIn_r _ [11] (by decide +kernel) (by decide +kernel)
set_option maxRecDepth 20000 in
theorem gX2_describe_X2_isNoCamp : GoodIn wsX2_describe (va_wsS RX2 94 yX2_isNoCamp wsX2_isNoCamp) := goodIn_app (goodIn_of _ (by decide +kernel)) ggX2_describe_X2_isNoCamp
set_option maxRecDepth 20000 in
theorem ggX2_describe_J4_setLength_d00df : GoodIn wsX2_describe wsJ4_setLength_d00df := goodIn_r _ [16, 17, 18, 19, 20, 21, 22, 23, 24, 25, 26, 27, 28, 29, 30, 31, 32, 33, 34, 35, 36, 37, 38, 39, 40, 41, 42, 43, 44, 45, 46, 47, 48, 49, 50, 51, 52, 53, 54, 55, 56, 57, 58, 59, 60, 61, 62, 63, 64, 65, 66, 67, 68, 69, 70, 71, 72, 73, 74, 75, 76, 77, 78, 79, 80, 81, 82, 83, 84, 85, 86, 87, 88, 223, 224, 225, 226] (by decide +kernel) (by decide +kernel)
set_option maxRecDepth 20000 in
theorem gX2_describe_J4_setLength_d00df : GoodIn wsX2_describe (wsV RX2 168 RJ4 yJ4_setLength_d00df wsJ4_setLength_d00df) := goodIn_app (goodIn_of _ (by decide +kernel)) ggX2_describe_J4_setLength_d00df
set_option maxRecDepth 20000 in
theorem ggX2_describe_J4_append_bf812 : GoodIn wsX2_describe wsJ4_append_bf812 := goodIn_r _ [92, 93, 94, 19, 95, 21, 96, 23, 24, 97, 98, 99, 100, 26, 27, 28, 29, 30, 31, 32, 33, 34, 35, 36, 37, 38, 39, 40, 41, 42, 43, 44, 45, 46, 47, 48, 49, 50, 51, 52, 53, 54, 55, 56, 57, 58, 59, 60, 61, 62, 63, 64, 65, 66, 67, 68, 69, 70, 71, 72, 73, 101, 102, 103, 104, 105, 106, 107, 86, 108, 109, 110, 111, 112, 113, 114, 115, 116, 117, 118, 119, 120, 121, 122, 123, 124, 125, 126, 127, 128, 129, 130, 131, 132, 133, 134, 223, 224, 225, 226] (by decide +kernel) (by decide +kernel)
set_option maxRecDepth 20000 in
theorem gX2_describe_J4_append_bf812 : GoodIn wsX2_describe (wsV RX2 172 RJ4 yJ4_append_bf812 wsJ4_append_bf812) := goodIn_app (goodIn_of _ (by decide +kernel)) ggX2_describe_J4_append_bf812
set_option maxRecDepth 20000 in
theorem ggX2_describe_J4_append_cf468 : GoodIn wsX2_describe wsJ4_append_cf468 := goodIn_r _ [138, 139, 140, 19, 141, 21, 142, 23, 24, 26, 27, 28, 29, 30, 31, 32, 33, 34, 35, 36, 37, 38, 39, 40, 41, 42, 43, 44, 45, 46, 47, 48, 49, 50, 51, 52, 53, 54, 55, 56, 57, 58, 59, 60, 61, 62, 63, 64, 65, 66, 67, 68, 69, 70, 71, 72, 73, 143, 144, 76, 145, 146, 147, 148, 149, 150, 151, 152, 86, 153, 154, 155, 156, 157, 158, 159, 160, 161, 162, 163, 164, 165, 166, 113, 114, 115, 167, 168, 118, 169, 120, 170, 171, 123, 172, 130, 131, 132, 109, 133, 134, 173, 174, 175, 176, 177, 178, 179, 180, 181, 182, 183, 184, 223, 224, 225, 226] (by decide +kernel) (by decide +kernel)
set_option maxRecDepth 20000 in
theorem gX2_describe_J4_append_cf468 : GoodIn wsX2_describe (wsV RX2 176 RJ4 yJ4_append_cf468 wsJ4_append_cf468) := goodIn_app (goodIn_of _ (by decide +kernel)) ggX2_describe_J4_append_cf468
set_option maxRecDepth 20000 in
theorem ggX2_describe_J4_length_8abf5 : GoodIn wsX2_describe wsJ4_length_8abf5 := goodIn_r _ [188, 189, 190, 19, 191, 21, 192, 23, 223, 224, 225, 226] (by decide +kernel) (by decide +kernel)
set_option maxRecDepth 20000 in
theorem gX2_describe_J4_length_8abf5 : GoodIn wsX2_describe (wsV RX2 179 RJ4 yJ4_length_8abf5 wsJ4_length_8abf5) := goodIn_app (goodIn_of _ (by decide +kernel)) ggX2_describe_J4_length_8abf5
theorem dX2_describe_0 : decode cX2_describe 0 = .ok (.iload_n 1, 1) := by decide +kernel
theorem dX2_describe_1 : decode cX2_describe 1 = .ok (.invokestatic 94, 3) := by decide +kernel
theorem dX2_describe_4 : decode cX2_describe 4 = .ok (.ifCond .eq 5, 3) := by decide +kernel
theorem dX2_describe_7 : decode cX2_describe 7 = .ok (.iconst (-1), 1) := by decide +kernel
theorem dX2_describe_8 : decode cX2_describe 8 = .ok (.ireturn, 1) := by decide +kernel
theorem dX2_describe_9 : decode cX2_describe 9 = .ok (.aload_n 0, 1) := by decide +kernel
theorem dX2_describe_10 : decode cX2_describe 10 = .ok (.getfield 50, 3) := by decide +kernel
theorem dX2_describe_13 : decode cX2_describe 13 = .ok (.iconst 0, 1) := by decide +kernel
theorem dX2_describe_14 : decode cX2_describe 14 = .ok (.invokevirtual 168, 3) := by decide +kernel
theorem dX2_describe_17 : decode cX2_describe 17 = .ok (.aload_n 0, 1) := by decide +kernel
theorem dX2_describe_18 : decode cX2_describe 18 = .ok (.getfield 50, 3) := by decide +kernel
theorem dX2_describe_21 : decode cX2_describe 21 = .ok (.iload_n 1, 1) := by decide +kernel
theorem dX2_describe_22 : decode cX2_describe 22 = .ok (.invokevirtual 172, 3) := by decide +kernel
theorem dX2_describe_25 : decode cX2_describe 25 = .ok (.pop, 1) := by decide +kernel
theorem dX2_describe_26 : decode cX2_describe 26 = .ok (.aload_n 0, 1) := by decide +kernel
theorem dX2_describe_27 : decode cX2_describe 27 = .ok (.getfield 10, 3) := by decide +kernel
theorem dX2_describe_30 : decode cX2_describe 30 = .ok (.getfield 108, 3) := by decide +kernel
theorem dX2_describe_33 : decode cX2_describe 33 = .ok (.iload_n 1, 1) := by decide +kernel
theorem dX2_describe_34 : decode cX2_describe 34 = .ok (.iaload, 1) := by decide +kernel
theorem dX2_describe_35 : decode cX2_describe 35 = .ok (.ifCond .ne 13, 3) := by decide +kernel
theorem dX2_describe_38 : decode cX2_describe 38 = .ok (.aload_n 0, 1) := by decide +kernel
theorem dX2_describe_39 : decode cX2_describe 39 = .ok (.getfield 50, 3) := by decide +kernel
theorem dX2_describe_42 : decode cX2_describe 42 = .ok (.bipush 122, 2) := by decide +kernel
theorem dX2_describe_44 : decode cX2_describe 44 = .ok (.invokevirtual 176, 3) := by decide +kernel
theorem dX2_describe_47 : decode cX2_describe 47 = .ok (.pop, 1) := by decide +kernel
theorem dX2_describe_48 : decode cX2_describe 48 = .ok (.aload_n 0, 1) := by decide +kernel
theorem dX2_describe_49 : decode cX2_describe 49 = .ok (.getfield 10, 3) := by decide +kernel
theorem dX2_describe_52 : decode cX2_describe 52 = .ok (.getfield 105, 3) := by decide +kernel
theorem dX2_describe_55 : decode cX2_describe 55 = .ok (.iload_n 1, 1) := by decide +kernel
theorem dX2_describe_56 : decode cX2_describe 56 = .ok (.iaload, 1) := by decide +kernel
theorem dX2_describe_57 : decode cX2_describe 57 = .ok (.iconst 1, 1) := by decide +kernel
theorem dX2_describe_58 : decode cX2_describe 58 = .ok (.if_icmp .ne 13, 3) := by decide +kernel
theorem dX2_describe_61 : decode cX2_describe 61 = .ok (.aload_n 0, 1) := by decide +kernel
theorem dX2_describe_62 : decode cX2_describe 62 = .ok (.getfield 50, 3) := by decide +kernel
theorem dX2_describe_65 : decode cX2_describe 65 = .ok (.bipush 67, 2) := by decide +kernel
theorem dX2_describe_67 : decode cX2_describe 67 = .ok (.invokevirtual 176, 3) := by decide +kernel
theorem dX2_describe_70 : decode cX2_describe 70 = .ok (.pop, 1) := by decide +kernel
theorem dX2_describe_71 : decode cX2_describe 71 = .ok (.aload_n 0, 1) := by decide +kernel
theorem dX2_describe_72 : decode cX2_describe 72 = .ok (.getfield 50, 3) := by decide +kernel
theorem dX2_describe_75 : decode cX2_describe 75 = .ok (.bipush 58, 2) := by decide +kernel
theorem dX2_describe_77 : decode cX2_describe 77 = .ok (.invokevirtual 176, 3) := by decide +kernel
theorem dX2_describe_80 : decode cX2_describe 80 = .ok (.aload_n 0, 1) := by decide +kernel
theorem dX2_describe_81 : decode cX2_describe 81 = .ok (.getfield 10, 3) := by decide +kernel
theorem dX2_describe_84 : decode cX2_describe 84 = .ok (.getfield 98, 3) := by decide +kernel
theorem dX2_describe_87 : decode cX2_describe 87 = .ok (.iload_n 1, 1) := by decide +kernel
theorem dX2_describe_88 : decode cX2_describe 88 = .ok (.iaload, 1) := by decide +kernel
theorem dX2_describe_89 : decode cX2_describe 89 = .ok (.invokevirtual 172, 3) := by decide +kernel
theorem dX2_describe_92 : decode cX2_describe 92 = .ok (.bipush 118, 2) := by decide +kernel
theorem dX2_describe_94 : decode cX2_describe 94 = .ok (.invokevirtual 176, 3) := by decide +kernel
theorem dX2_describe_97 : decode cX2_describe 97 = .ok (.pop, 1) := by decide +kernel
theorem dX2_describe_98 : decode cX2_describe 98 = .ok (.aload_n 0, 1) := by decide +kernel
theorem dX2_describe_99 : decode cX2_describe 99 = .ok (.getfield 10, 3) := by decide +kernel
theorem dX2_describe_102 : decode cX2_describe 102 = .ok (.getfield 102, 3) := by decide +kernel
theorem dX2_describe_105 : decode cX2_describe 105 = .ok (.iload_n 1, 1) := by decide +kernel
theorem dX2_describe_106 : decode cX2_describe 106 = .ok (.iaload, 1) := by decide +kernel
theorem dX2_describe_107 : decode cX2_describe 107 = .ok (.bipush (-4), 2) := by decide +kernel
theorem dX2_describe_109 : decode cX2_describe 109 = .ok (.if_icmp .ne 16, 3) := by decide +kernel
theorem dX2_describe_112 : decode cX2_describe 112 = .ok (.aload_n 0, 1) := by decide +kernel
theorem dX2_describe_113 : decode cX2_describe 113 = .ok (.getfield 50, 3) := by decide +kernel
theorem dX2_describe_116 : decode cX2_describe 116 = .ok (.bipush 45, 2) := by decide +kernel
theorem dX2_describe_118 : decode cX2_describe 118 = .ok (.invokevirtual 176, 3) := by decide +kernel
theorem dX2_describe_121 : decode cX2_describe 121 = .ok (.pop, 1) := by decide +kernel
theorem dX2_describe_122 : decode cX2_describe 122 = .ok (.goto 20, 3) := by decide +kernel
theorem dX2_describe_125 : decode cX2_describe 125 = .ok (.aload_n 0, 1) := by decide +kernel
theorem dX2_describe_126 : decode cX2_describe 126 = .ok (.getfield 50, 3) := by decide +kernel
theorem dX2_describe_129 : decode cX2_describe 129 = .ok (.aload_n 0, 1) := by decide +kernel
theorem dX2_describe_130 : decode cX2_describe 130 = .ok (.getfield 10, 3) := by decide +kernel
theorem dX2_describe_133 : decode cX2_describe 133 = .ok (.getfield 102, 3) := by decide +kernel
theorem dX2_describe_136 : decode cX2_describe 136 = .ok (.iload_n 1, 1) := by decide +kernel
theorem dX2_describe_137 : decode cX2_describe 137 = .ok (.iaload, 1) := by decide +kernel
theorem dX2_describe_138 : decode cX2_describe 138 = .ok (.invokevirtual 172, 3) := by decide +kernel
theorem dX2_describe_141 : decode cX2_describe 141 = .ok (.pop, 1) := by decide +kernel
theorem dX2_describe_142 : decode cX2_describe 142 = .ok (.aload_n 0, 1) := by decide +kernel
theorem dX2_describe_143 : decode cX2_describe 143 = .ok (.getfield 50, 3) := by decide +kernel
theorem dX2_describe_146 : decode cX2_describe 146 = .ok (.bipush 115, 2) := by decide +kernel
theorem dX2_describe_148 : decode cX2_describe 148 = .ok (.invokevirtual 176, 3) := by decide +kernel
theorem dX2_describe_151 : decode cX2_describe 151 = .ok (.aload_n 0, 1) := by decide +kernel
theorem dX2_describe_152 : decode cX2_describe 152 = .ok (.getfield 10, 3) := by decide +kernel
theorem dX2_describe_155 : decode cX2_describe 155 = .ok (.getfield 117, 3) := by decide +kernel
theorem dX2_describe_158 : decode cX2_describe 158 = .ok (.iload_n 1, 1) := by decide +kernel
theorem dX2_describe_159 : decode cX2_describe 159 = .ok (.iaload, 1) := by decide +kernel
theorem dX2_describe_160 : decode cX2_describe 160 = .ok (.invokevirtual 172, 3) := by decide +kernel
theorem dX2_describe_163 : decode cX2_describe 163 = .ok (.pop, 1) := by decide +kernel
theorem dX2_describe_164 : decode cX2_describe 164 = .ok (.aload_n 0, 1) := by decide +kernel
theorem dX2_describe_165 : decode cX2_describe 165 = .ok (.getfield 50, 3) := by decide +kernel
theorem dX2_describe_168 : decode cX2_describe 168 = .ok (.invokevirtual 179, 3) := by decide +kernel
theorem dX2_describe_171 : decode cX2_describe 171 = .ok (.ireturn, 1) := by decide +kernel
set_option maxRecDepth 20000 in
theorem ggX2_show_X2_isNoCamp : GoodIn wsX2_show wsX2_isNoCamp := goodIn_r _ [8] (by decide +kernel) (by decide +kernel)
set_option maxRecDepth 20000 in
theorem gX2_show_X2_isNoCamp : GoodIn wsX2_show (va_wsS RX2 94 yX2_isNoCamp wsX2_isNoCamp) := goodIn_app (goodIn_of _ (by decide +kernel)) ggX2_show_X2_isNoCamp
set_option maxRecDepth 20000 in
theorem ggX2_show_J4_setLength_d00df : GoodIn wsX2_show wsJ4_setLength_d00df := goodIn_r _ [13, 14, 15, 16, 17, 18, 19, 20, 21, 22, 23, 24, 25, 26, 27, 28, 29, 30, 31, 32, 33, 34, 35, 36, 37, 38, 39, 40, 41, 42, 43, 44, 45, 46, 47, 48, 49, 50, 51, 52, 53, 54, 55, 56, 57, 58, 59, 60, 61, 62, 63, 64, 65, 66, 67, 68, 69, 70, 71, 72, 73, 74, 75, 76, 77, 78, 79, 80, 81, 82, 83, 84, 85, 226, 227, 228, 229] (by decide +kernel) (by decide +kernel)
set_option maxRecDepth 20000 in
theorem gX2_show_J4_setLength_d00df : GoodIn wsX2_show (wsV RX2 168 RJ4 yJ4_setLength_d00df wsJ4_setLength_d00df) := goodIn_app (goodIn_of _ (by decide +kernel)) ggX2_show_J4_setLength_d00df
set_option maxRecDepth 20000 in
theorem ggX2_show_X2_appendPages : GoodIn wsX2_show wsX2_appendPages := goodIn_r _ [89, 1, 2, 90, 91, 92, 93, 94, 12, 95, 96, 97, 16, 98, 18, 99, 20, 21, 23, 24, 25, 26, 27, 28, 29, 30, 31, 32, 33, 34, 35, 36, 37, 38, 39, 40, 41, 42, 43, 44, 45, 46, 47, 48, 49, 50, 51, 52, 53, 54, 55, 56, 57, 58, 59, 60, 61, 62, 63, 64, 65, 66, 67, 68, 69, 70, 100, 101, 73, 102, 103, 104, 105, 106, 107, 108, 109, 83, 110, 111, 112, 113, 114, 115, 116, 117, 118, 119, 120, 121, 122, 123, 124, 125, 126, 127, 128, 129, 130, 131, 132, 133, 134, 135, 136, 137, 138, 139, 140, 141, 142, 143, 144, 145, 146, 147, 148, 149, 150, 151, 152, 153, 154, 155, 156, 157, 158, 159, 160, 161, 162, 163, 164, 165, 166, 167, 168, 169, 170, 171, 172, 173, 174, 175, 176, 177, 178, 179, 180, 181, 182, 183, 184, 185, 186, 187, 196, 197, 198, 199, 200, 201, 202, 203, 204, 205, 206, 207, 208, 209, 210, 211, 212, 213, 214, 215, 216, 217, 218, 219, 220, 221, 222, 223, 224, 225, 226, 227, 228, 229] (by decide +kernel) (by decide +kernel)
set_option maxRecDepth 20000 in
theorem gX2_show_X2_appendPages : GoodIn wsX2_show (wsV RX2 182 RX2 yX2_appendPages wsX2_appendPages) := goodIn_app (goodIn_of _ (by decide +kernel)) ggX2_show_X2_appendPages
set_option maxRecDepth 20000 in
theorem ggX2_show_J4_append_cf468 : GoodIn wsX2_show wsJ4_append_cf468 := goodIn_r _ [95, 96, 97, 16, 98, 18, 99, 20, 21, 23, 24, 25, 26, 27, 28, 29, 30, 31, 32, 33, 34, 35, 36, 37, 38, 39, 40, 41, 42, 43, 44, 45, 46, 47, 48, 49, 50, 51, 52, 53, 54, 55, 56, 57, 58, 59, 60, 61, 62, 63, 64, 65, 66, 67, 68, 69, 70, 100, 101, 73, 102, 103, 104, 105, 106, 107, 108, 109, 83, 110, 111, 112, 113, 114, 115, 116, 117, 118, 119, 120, 121, 122, 123, 124, 125, 126, 127, 128, 129, 130, 131, 132, 133, 134, 135, 136, 137, 138, 139, 140, 141, 142, 143, 144, 145, 146, 147, 148, 149, 150, 151, 152, 153, 226, 227, 228, 229] (by decide +kernel) (by decide +kernel)
set_option maxRecDepth 20000 in
theorem gX2_show_J4_append_cf468 : GoodIn wsX2_show (wsV RX2 176 RJ4 yJ4_append_cf468 wsJ4_append_cf468) := goodIn_app (goodIn_of _ (by decide +kernel)) ggX2_show_J4_append_cf468
set_option maxRecDepth 20000 in
theorem ggX2_show_J4_length_8abf5 : GoodIn wsX2_show wsJ4_length_8abf5 := goodIn_r _ [191, 192, 193, 16, 194, 18, 195, 20, 226, 227, 228, 229] (by decide +kernel) (by decide +kernel)
set_option maxRecDepth 20000 in
theorem gX2_show_J4_length_8abf5 : GoodIn wsX2_show (wsV RX2 179 RJ4 yJ4_length_8abf5 wsJ4_length_8abf5) := goodIn_app (goodIn_of _ (by decide +kernel)) ggX2_show_J4_length_8abf5
theorem dX2_show_0 : decode cX2_show 0 = .ok (.iload_n 1, 1) := by decide +kernel
theorem dX2_show_1 : decode cX2_show 1 = .ok (.invokestatic 94, 3) := by decide +kernel
theorem dX2_show_4 : decode cX2_show 4 = .ok (.ifCond .eq 5, 3) := by decide +kernel
theorem dX2_show_7 : decode cX2_show 7 = .ok (.iconst (-1), 1) := by decide +kernel
theorem dX2_show_8 : decode cX2_show 8 = .ok (.ireturn, 1) := by decide +kernel
theorem dX2_show_9 : decode cX2_show 9 = .ok (.aload_n 0, 1) := by decide +kernel
theorem dX2_show_10 : decode cX2_show 10 = .ok (.getfield 50, 3) := by decide +kernel
theorem dX2_show_13 : decode cX2_show 13 = .ok (.iconst 0, 1) := by decide +kernel
theorem dX2_show_14 : decode cX2_show 14 = .ok (.invokevirtual 168, 3) := by decide +kernel
theorem dX2_show_17 : decode cX2_show 17 = .ok (.aload_n 0, 1) := by decide +kernel
theorem dX2_show_18 : decode cX2_show 18 = .ok (.iload_n 1, 1) := by decide +kernel
theorem dX2_show_19 : decode cX2_show 19 = .ok (.iconst 0, 1) := by decide +kernel
theorem dX2_show_20 : decode cX2_show 20 = .ok (.aload_n 0, 1) := by decide +kernel
theorem dX2_show_21 : decode cX2_show 21 = .ok (.getfield 10, 3) := by decide +kernel
theorem dX2_show_24 : decode cX2_show 24 = .ok (.getfield 114, 3) := by decide +kernel
theorem dX2_show_27 : decode cX2_show 27 = .ok (.iload_n 1, 1) := by decide +kernel
theorem dX2_show_28 : decode cX2_show 28 = .ok (.iaload, 1) := by decide +kernel
theorem dX2_show_29 : decode cX2_show 29 = .ok (.invokevirtual 182, 3) := by decide +kernel
theorem dX2_show_32 : decode cX2_show 32 = .ok (.aload_n 0, 1) := by decide +kernel
theorem dX2_show_33 : decode cX2_show 33 = .ok (.getfield 50, 3) := by decide +kernel
theorem dX2_show_36 : decode cX2_show 36 = .ok (.bipush 124, 2) := by decide +kernel
theorem dX2_show_38 : decode cX2_show 38 = .ok (.invokevirtual 176, 3) := by decide +kernel
theorem dX2_show_41 : decode cX2_show 41 = .ok (.pop, 1) := by decide +kernel
theorem dX2_show_42 : decode cX2_show 42 = .ok (.aload_n 0, 1) := by decide +kernel
theorem dX2_show_43 : decode cX2_show 43 = .ok (.iload_n 1, 1) := by decide +kernel
theorem dX2_show_44 : decode cX2_show 44 = .ok (.aload_n 0, 1) := by decide +kernel
theorem dX2_show_45 : decode cX2_show 45 = .ok (.getfield 10, 3) := by decide +kernel
theorem dX2_show_48 : decode cX2_show 48 = .ok (.getfield 114, 3) := by decide +kernel
theorem dX2_show_51 : decode cX2_show 51 = .ok (.iload_n 1, 1) := by decide +kernel
theorem dX2_show_52 : decode cX2_show 52 = .ok (.iaload, 1) := by decide +kernel
theorem dX2_show_53 : decode cX2_show 53 = .ok (.aload_n 0, 1) := by decide +kernel
theorem dX2_show_54 : decode cX2_show 54 = .ok (.getfield 10, 3) := by decide +kernel
theorem dX2_show_57 : decode cX2_show 57 = .ok (.getfield 111, 3) := by decide +kernel
theorem dX2_show_60 : decode cX2_show 60 = .ok (.iload_n 1, 1) := by decide +kernel
theorem dX2_show_61 : decode cX2_show 61 = .ok (.iaload, 1) := by decide +kernel
theorem dX2_show_62 : decode cX2_show 62 = .ok (.invokevirtual 182, 3) := by decide +kernel
theorem dX2_show_65 : decode cX2_show 65 = .ok (.aload_n 0, 1) := by decide +kernel
theorem dX2_show_66 : decode cX2_show 66 = .ok (.getfield 50, 3) := by decide +kernel
theorem dX2_show_69 : decode cX2_show 69 = .ok (.invokevirtual 179, 3) := by decide +kernel
theorem dX2_show_72 : decode cX2_show 72 = .ok (.ireturn, 1) := by decide +kernel
set_option maxRecDepth 20000 in
theorem ggX2_sign_J4_length_8abf5 : GoodIn wsX2_sign wsJ4_length_8abf5 := goodIn_r _ [6, 7, 8, 9, 10, 11, 12, 13, 61, 62, 63, 64] (by decide +kernel) (by decide +kernel)
set_option maxRecDepth 20000 in
theorem gX2_sign_J4_length_8abf5 : GoodIn wsX2_sign (wsV RX2 179 RJ4 yJ4_length_8abf5 wsJ4_length_8abf5) := goodIn_app (goodIn_of _ (by decide +kernel)) ggX2_sign_J4_length_8abf5
set_option maxRecDepth 20000 in
theorem ggX2_sign_J4_charAt_5068e : GoodIn wsX2_sign wsJ4_charAt_5068e := goodIn_r _ [17, 18, 19, 9, 20, 11, 21, 22, 23, 13, 24, 25, 26, 27, 28, 29, 30, 31, 32, 33, 34, 35, 36, 37, 38, 39, 40, 41, 42, 43, 44, 45, 46, 61, 62, 63, 64] (by decide +kernel) (by decide +kernel)
set_option maxRecDepth 20000 in
theorem gX2_sign_J4_charAt_5068e : GoodIn wsX2_sign (wsV RX2 186 RJ4 yJ4_charAt_5068e wsJ4_charAt_5068e) := goodIn_app (goodIn_of _ (by decide +kernel)) ggX2_sign_J4_charAt_5068e
theorem dX2_sign_0 : decode cX2_sign 0 = .ok (.iload_n 1, 1) := by decide +kernel
theorem dX2_sign_1 : decode cX2_sign 1 = .ok (.ifCond .lt 14, 3) := by decide +kernel
theorem dX2_sign_4 : decode cX2_sign 4 = .ok (.iload_n 1, 1) := by decide +kernel
theorem dX2_sign_5 : decode cX2_sign 5 = .ok (.aload_n 0, 1) := by decide +kernel
theorem dX2_sign_6 : decode cX2_sign 6 = .ok (.getfield 50, 3) := by decide +kernel
theorem dX2_sign_9 : decode cX2_sign 9 = .ok (.invokevirtual 179, 3) := by decide +kernel
theorem dX2_sign_12 : decode cX2_sign 12 = .ok (.if_icmp .lt 5, 3) := by decide +kernel
theorem dX2_sign_15 : decode cX2_sign 15 = .ok (.iconst (-1), 1) := by decide +kernel
theorem dX2_sign_16 : decode cX2_sign 16 = .ok (.ireturn, 1) := by decide +kernel
theorem dX2_sign_17 : decode cX2_sign 17 = .ok (.aload_n 0, 1) := by decide +kernel
theorem dX2_sign_18 : decode cX2_sign 18 = .ok (.getfield 50, 3) := by decide +kernel
theorem dX2_sign_21 : decode cX2_sign 21 = .ok (.iload_n 1, 1) := by decide +kernel
theorem dX2_sign_22 : decode cX2_sign 22 = .ok (.invokevirtual 186, 3) := by decide +kernel
theorem dX2_sign_25 : decode cX2_sign 25 = .ok (.ireturn, 1) := by decide +kernel
set_option maxRecDepth 20000 in
theorem ggX2_append_J4_length_8abf5 : GoodIn wsX2_append wsJ4_length_8abf5 := goodIn_r _ [7, 8, 9, 10, 11, 12, 13, 14, 148, 149, 150, 151] (by decide +kernel) (by decide +kernel)
set_option maxRecDepth 20000 in
theorem gX2_append_J4_length_8abf5 : GoodIn wsX2_append (wsV RX2 179 RJ4 yJ4_length_8abf5 wsJ4_length_8abf5) := goodIn_app (goodIn_of _ (by decide +kernel)) ggX2_append_J4_length_8abf5
set_option maxRecDepth 20000 in
theorem ggX2_append_J4_append_cf468 : GoodIn wsX2_append wsJ4_append_cf468 := goodIn_r _ [18, 19, 20, 10, 21, 12, 22, 14, 23, 24, 25, 26, 27, 28, 29, 30, 31, 32, 33, 34, 35, 36, 37, 38, 39, 40, 41, 42, 43, 44, 45, 46, 47, 48, 49, 50, 51, 52, 53, 54, 55, 56, 57, 58, 59, 60, 61, 62, 63, 64, 65, 66, 67, 68, 69, 70, 71, 72, 73, 74, 75, 76, 77, 78, 79, 80, 81, 82, 83, 84, 85, 86, 87, 88, 89, 90, 91, 92, 93, 94, 95, 96, 97, 98, 99, 100, 101, 102, 103, 104, 105, 106, 107, 108, 109, 110, 111, 112, 113, 114, 115, 116, 117, 118, 119, 120, 121, 122, 123, 124, 125, 126, 127, 148, 149, 150, 151] (by decide +kernel) (by decide +kernel)
set_option maxRecDepth 20000 in
theorem gX2_append_J4_append_cf468 : GoodIn wsX2_append (wsV RX2 176 RJ4 yJ4_append_cf468 wsJ4_append_cf468) := goodIn_app (goodIn_of _ (by decide +kernel)) ggX2_append_J4_append_cf468
theorem dX2_append_0 : decode cX2_append 0 = .ok (.iload_n 1, 1) := by decide +kernel
theorem dX2_append_1 : decode cX2_append 1 = .ok (.bipush 32, 2) := by decide +kernel
theorem dX2_append_3 : decode cX2_append 3 = .ok (.if_icmp .lt 24, 3) := by decide +kernel
theorem dX2_append_6 : decode cX2_append 6 = .ok (.iload_n 1, 1) := by decide +kernel
theorem dX2_append_7 : decode cX2_append 7 = .ok (.bipush 126, 2) := by decide +kernel
theorem dX2_append_9 : decode cX2_append 9 = .ok (.if_icmp .gt 18, 3) := by decide +kernel
theorem dX2_append_12 : decode cX2_append 12 = .ok (.aload_n 0, 1) := by decide +kernel
theorem dX2_append_13 : decode cX2_append 13 = .ok (.getfield 43, 3) := by decide +kernel
theorem dX2_append_16 : decode cX2_append 16 = .ok (.getfield 190, 3) := by decide +kernel
theorem dX2_append_19 : decode cX2_append 19 = .ok (.invokevirtual 179, 3) := by decide +kernel
theorem dX2_append_22 : decode cX2_append 22 = .ok (.bipush 70, 2) := by decide +kernel
theorem dX2_append_24 : decode cX2_append 24 = .ok (.if_icmp .lt 6, 3) := by decide +kernel
theorem dX2_append_27 : decode cX2_append 27 = .ok (.bipush (-2), 2) := by decide +kernel
theorem dX2_append_29 : decode cX2_append 29 = .ok (.ireturn, 1) := by decide +kernel
theorem dX2_append_30 : decode cX2_append 30 = .ok (.aload_n 0, 1) := by decide +kernel
theorem dX2_append_31 : decode cX2_append 31 = .ok (.getfield 43, 3) := by decide +kernel
theorem dX2_append_34 : decode cX2_append 34 = .ok (.getfield 190, 3) := by decide +kernel
theorem dX2_append_37 : decode cX2_append 37 = .ok (.iload_n 1, 1) := by decide +kernel
theorem dX2_append_38 : decode cX2_append 38 = .ok (.i2c, 1) := by decide +kernel
theorem dX2_append_39 : decode cX2_append 39 = .ok (.invokevirtual 176, 3) := by decide +kernel
theorem dX2_append_42 : decode cX2_append 42 = .ok (.pop, 1) := by decide +kernel
theorem dX2_append_43 : decode cX2_append 43 = .ok (.aload_n 0, 1) := by decide +kernel
theorem dX2_append_44 : decode cX2_append 44 = .ok (.getfield 43, 3) := by decide +kernel
theorem dX2_append_47 : decode cX2_append 47 = .ok (.getfield 190, 3) := by decide +kernel
theorem dX2_append_50 : decode cX2_append 50 = .ok (.invokevirtual 179, 3) := by decide +kernel
theorem dX2_append_53 : decode cX2_append 53 = .ok (.ireturn, 1) := by decide +kernel
set_option maxRecDepth 20000 in
theorem ggX2_read_X0_copyFrom : GoodIn wsX2_read wsX0_copyFrom := goodIn_r _ [10, 11, 12, 13, 14, 15, 16, 17, 18, 19, 20, 21, 22, 23, 24, 25, 26, 27, 28, 29, 30, 333, 334, 335, 336, 337, 338, 339, 340, 341, 342, 343, 344, 345, 346, 347, 348] (by decide +kernel) (by decide +kernel)
set_option maxRecDepth 20000 in
theorem gX2_read_X0_copyFrom : GoodIn wsX2_read (wsV RX2 66 RX0 yX0_copyFrom wsX0_copyFrom) := goodIn_app (goodIn_of _ (by decide +kernel)) ggX2_read_X0_copyFrom
set_option maxRecDepth 20000 in
theorem ggX2_read_X1_check : GoodIn wsX2_read wsX1_check := goodIn_r _ [35, 36, 37, 38, 39, 40, 34, 41, 42, 43, 44, 45, 46, 47, 48, 49, 50, 51, 52, 53, 54, 55, 56, 57, 58, 59, 60, 61, 62, 63, 64, 65, 66, 67, 68, 69, 70, 71, 72, 73, 74, 75, 76, 77, 78, 79, 80, 81, 82, 83, 84, 85, 86, 87, 88, 89, 90, 91, 92, 93, 94, 95, 96, 97, 98, 99, 100, 101, 102, 103, 104, 105, 106, 107, 108, 109, 110, 111, 112, 113, 114, 115, 116, 117, 118, 119, 120, 121, 122, 327, 328, 329, 330, 331, 332, 349, 350, 351, 352] (by decide +kernel) (by decide +kernel)
set_option maxRecDepth 20000 in
theorem gX2_read_X1_check : GoodIn wsX2_read (wsV RX2 193 RX1 yX1_check wsX1_check) := goodIn_app (goodIn_of _ (by decide +kernel)) ggX2_read_X1_check
set_option maxRecDepth 20000 in
theorem ggX2_read_X1_goToStart : GoodIn wsX2_read wsX1_goToStart := goodIn_r _ [41, 36, 327, 328, 329, 330, 331, 332] (by decide +kernel) (by decide +kernel)
set_option maxRecDepth 20000 in
theorem gX2_read_X1_goToStart : GoodIn wsX2_read (wsV RX2 196 RX1 yX1_goToStart wsX1_goToStart) := goodIn_app (goodIn_of _ (by decide +kernel)) ggX2_read_X1_goToStart
set_option maxRecDepth 20000 in
theorem ggX2_read_X1_takeCommand : GoodIn wsX2_read wsX1_takeCommand := goodIn_r _ [45, 46, 36, 47, 48, 49, 34, 50, 37, 51, 52, 53, 54, 55, 56, 57, 58, 59, 60, 61, 62, 63, 64, 65, 66, 67, 68, 69, 70, 71, 72, 73, 74, 75, 76, 77, 78, 79, 80, 81, 82, 83, 84, 85, 86, 87, 88, 89, 90, 91, 92, 93, 94, 95, 96, 97, 98, 99, 100, 101, 102, 103, 104, 105, 106, 107, 108, 109, 110, 111, 112, 113, 114, 115, 116, 117, 118, 119, 120, 121, 122, 327, 328, 329, 330, 331, 332, 349, 350, 351, 352] (by decide +kernel) (by decide +kernel)
set_option maxRecDepth 20000 in
theorem gX2_read_X1_takeCommand : GoodIn wsX2_read (wsV RX2 199 RX1 yX1_takeCommand wsX1_takeCommand) := goodIn_app (goodIn_of _ (by decide +kernel)) ggX2_read_X1_takeCommand
set_option maxRecDepth 20000 in
theorem ggX2_read_X2_carryOutCommand : GoodIn wsX2_read wsX2_carryOutCommand := goodIn_r _ [129, 3, 130, 131, 132, 133, 134, 135, 136, 128, 137, 2, 138, 139, 140, 141, 142, 143, 144, 145, 146, 147, 148, 149, 4, 150, 151, 152, 153, 9, 154, 25, 11, 16, 19, 17, 26, 155, 156, 157, 158, 18, 24, 159, 160, 161, 162, 163, 164, 165, 166, 20, 167, 168, 169, 170, 22, 171, 172, 173, 174, 175, 176, 177, 178, 179, 180, 181, 182, 23, 27, 183, 184, 185, 186, 187, 188, 189, 190, 191, 29, 192, 193, 194, 195, 28, 196, 197, 75, 198, 199, 200, 201, 202, 203, 204, 205, 206, 21, 207, 208, 209, 210, 211, 212, 213, 214, 215, 216, 217, 218, 219, 220, 221, 222, 223, 224, 225, 226, 227, 228, 229, 230, 231, 232, 233, 234, 235, 30, 236, 237, 238, 239, 240, 241, 313, 314, 315, 316, 317, 318, 319, 320, 321, 322, 323, 324, 325, 326, 327, 328, 329, 330, 331, 332, 333, 334, 335, 336, 337, 338, 339, 340, 341, 342, 343, 344, 345, 346, 347, 348] (by decide +kernel) (by decide +kernel)
set_option maxRecDepth 20000 in
theorem gX2_read_X2_carryOutCommand : GoodIn wsX2_read (wsV RX2 202 RX2 yX2_carryOutCommand wsX2_carryOutCommand) := goodIn_app (goodIn_of _ (by decide +kernel)) ggX2_read_X2_carryOutCommand
set_option maxRecDepth 20000 in
theorem ggX2_read_X1_takeSign : GoodIn wsX2_read wsX1_takeSign := goodIn_r _ [118, 36, 47, 48, 49, 34, 50, 37, 51, 52, 53, 54, 55, 56, 57, 58, 59, 60, 61, 62, 63, 64, 65, 66, 67, 68, 69, 70, 71, 72, 73, 74, 75, 76, 77, 78, 79, 80, 81, 82, 83, 84, 85, 86, 87, 88, 89, 90, 91, 92, 93, 94, 95, 327, 328, 329, 330, 331, 332, 349, 350, 351, 352] (by decide +kernel) (by decide +kernel)
set_option maxRecDepth 20000 in
theorem gX2_read_X1_takeSign : GoodIn wsX2_read (wsV RX2 205 RX1 yX1_takeSign wsX1_takeSign) := goodIn_app (goodIn_of _ (by decide +kernel)) ggX2_read_X1_takeSign
set_option maxRecDepth 20000 in
theorem ggX2_read_J4_setLength_d00df : GoodIn wsX2_read wsJ4_setLength_d00df := goodIn_r _ [246, 247, 248, 58, 249, 60, 250, 62, 72, 251, 252, 253, 254, 255, 256, 71, 257, 258, 259, 260, 261, 262, 263, 264, 265, 266, 267, 197, 75, 198, 268, 269, 270, 271, 272, 273, 274, 275, 276, 277, 278, 279, 280, 281, 282, 283, 74, 76, 284, 13, 14, 15, 285, 286, 287, 288, 289, 290, 291, 292, 293, 294, 295, 296, 297, 298, 299, 300, 301, 302, 88, 303, 304, 349, 350, 351, 352] (by decide +kernel) (by decide +kernel)
set_option maxRecDepth 20000 in
theorem gX2_read_J4_setLength_d00df : GoodIn wsX2_read (wsV RX2 168 RJ4 yJ4_setLength_d00df wsJ4_setLength_d00df) := goodIn_app (goodIn_of _ (by decide +kernel)) ggX2_read_J4_setLength_d00df
set_option maxRecDepth 20000 in
theorem ggX2_read_X2_finishChange : GoodIn wsX2_read wsX2_finishChange := goodIn_r _ [308, 309, 310, 1, 311, 312, 74, 75, 76, 6, 7, 8, 9, 10, 11, 12, 13, 14, 15, 16, 17, 18, 19, 20, 21, 22, 23, 24, 25, 26, 27, 28, 29, 30, 313, 314, 315, 316, 317, 318, 319, 320, 321, 322, 323, 324, 325, 326, 333, 334, 335, 336, 337, 338, 339, 340, 341, 342, 343, 344, 345, 346, 347, 348] (by decide +kernel) (by decide +kernel)
set_option maxRecDepth 20000 in
theorem gX2_read_X2_finishChange : GoodIn wsX2_read (wsV RX2 74 RX2 yX2_finishChange wsX2_finishChange) := goodIn_app (goodIn_of _ (by decide +kernel)) ggX2_read_X2_finishChange
theorem dX2_read_0 : decode cX2_read 0 = .ok (.aload_n 0, 1) := by decide +kernel
theorem dX2_read_1 : decode cX2_read 1 = .ok (.getfield 16, 3) := by decide +kernel
theorem dX2_read_4 : decode cX2_read 4 = .ok (.aload_n 0, 1) := by decide +kernel
theorem dX2_read_5 : decode cX2_read 5 = .ok (.getfield 10, 3) := by decide +kernel
theorem dX2_read_8 : decode cX2_read 8 = .ok (.invokevirtual 66, 3) := by decide +kernel
theorem dX2_read_11 : decode cX2_read 11 = .ok (.aload_n 0, 1) := by decide +kernel
theorem dX2_read_12 : decode cX2_read 12 = .ok (.getfield 43, 3) := by decide +kernel
theorem dX2_read_15 : decode cX2_read 15 = .ok (.invokevirtual 193, 3) := by decide +kernel
theorem dX2_read_18 : decode cX2_read 18 = .ok (.istore_n 1, 1) := by decide +kernel
theorem dX2_read_19 : decode cX2_read 19 = .ok (.aload_n 0, 1) := by decide +kernel
theorem dX2_read_20 : decode cX2_read 20 = .ok (.getfield 43, 3) := by decide +kernel
theorem dX2_read_23 : decode cX2_read 23 = .ok (.invokevirtual 196, 3) := by decide +kernel
theorem dX2_read_26 : decode cX2_read 26 = .ok (.iconst 0, 1) := by decide +kernel
theorem dX2_read_27 : decode cX2_read 27 = .ok (.istore_n 2, 1) := by decide +kernel
theorem dX2_read_28 : decode cX2_read 28 = .ok (.iload_n 2, 1) := by decide +kernel
theorem dX2_read_29 : decode cX2_read 29 = .ok (.iload_n 1, 1) := by decide +kernel
theorem dX2_read_30 : decode cX2_read 30 = .ok (.if_icmp .ge 69, 3) := by decide +kernel
theorem dX2_read_33 : decode cX2_read 33 = .ok (.aload_n 0, 1) := by decide +kernel
theorem dX2_read_34 : decode cX2_read 34 = .ok (.getfield 43, 3) := by decide +kernel
theorem dX2_read_37 : decode cX2_read 37 = .ok (.invokevirtual 199, 3) := by decide +kernel
theorem dX2_read_40 : decode cX2_read 40 = .ok (.pop, 1) := by decide +kernel
theorem dX2_read_41 : decode cX2_read 41 = .ok (.aload_n 0, 1) := by decide +kernel
theorem dX2_read_42 : decode cX2_read 42 = .ok (.iload_n 2, 1) := by decide +kernel
theorem dX2_read_43 : decode cX2_read 43 = .ok (.putfield 54, 3) := by decide +kernel
theorem dX2_read_46 : decode cX2_read 46 = .ok (.aload_n 0, 1) := by decide +kernel
theorem dX2_read_47 : decode cX2_read 47 = .ok (.invokevirtual 202, 3) := by decide +kernel
theorem dX2_read_50 : decode cX2_read 50 = .ok (.istore_n 3, 1) := by decide +kernel
theorem dX2_read_51 : decode cX2_read 51 = .ok (.iload_n 3, 1) := by decide +kernel
theorem dX2_read_52 : decode cX2_read 52 = .ok (.ifCond .ge 31, 3) := by decide +kernel
theorem dX2_read_55 : decode cX2_read 55 = .ok (.aload_n 0, 1) := by decide +kernel
theorem dX2_read_56 : decode cX2_read 56 = .ok (.getfield 10, 3) := by decide +kernel
theorem dX2_read_59 : decode cX2_read 59 = .ok (.aload_n 0, 1) := by decide +kernel
theorem dX2_read_60 : decode cX2_read 60 = .ok (.getfield 16, 3) := by decide +kernel
theorem dX2_read_63 : decode cX2_read 63 = .ok (.invokevirtual 66, 3) := by decide +kernel
theorem dX2_read_66 : decode cX2_read 66 = .ok (.iload_n 3, 1) := by decide +kernel
theorem dX2_read_67 : decode cX2_read 67 = .ok (.bipush (-3), 2) := by decide +kernel
theorem dX2_read_69 : decode cX2_read 69 = .ok (.if_icmp .ne 8, 3) := by decide +kernel
theorem dX2_read_72 : decode cX2_read 72 = .ok (.bipush (-3), 2) := by decide +kernel
theorem dX2_read_74 : decode cX2_read 74 = .ok (.goto 5, 3) := by decide +kernel
theorem dX2_read_77 : decode cX2_read 77 = .ok (.bipush (-2), 2) := by decide +kernel
theorem dX2_read_79 : decode cX2_read 79 = .ok (.istore_n 1, 1) := by decide +kernel
theorem dX2_read_80 : decode cX2_read 80 = .ok (.goto 19, 3) := by decide +kernel
theorem dX2_read_83 : decode cX2_read 83 = .ok (.aload_n 0, 1) := by decide +kernel
theorem dX2_read_84 : decode cX2_read 84 = .ok (.getfield 43, 3) := by decide +kernel
theorem dX2_read_87 : decode cX2_read 87 = .ok (.bipush 59, 2) := by decide +kernel
theorem dX2_read_89 : decode cX2_read 89 = .ok (.invokevirtual 205, 3) := by decide +kernel
theorem dX2_read_92 : decode cX2_read 92 = .ok (.pop, 1) := by decide +kernel
theorem dX2_read_93 : decode cX2_read 93 = .ok (.iinc 2 1, 3) := by decide +kernel
theorem dX2_read_96 : decode cX2_read 96 = .ok (.goto (-68), 3) := by decide +kernel
theorem dX2_read_99 : decode cX2_read 99 = .ok (.aload_n 0, 1) := by decide +kernel
theorem dX2_read_100 : decode cX2_read 100 = .ok (.bipush (-4), 2) := by decide +kernel
theorem dX2_read_102 : decode cX2_read 102 = .ok (.putfield 54, 3) := by decide +kernel
theorem dX2_read_105 : decode cX2_read 105 = .ok (.aload_n 0, 1) := by decide +kernel
theorem dX2_read_106 : decode cX2_read 106 = .ok (.getfield 43, 3) := by decide +kernel
theorem dX2_read_109 : decode cX2_read 109 = .ok (.getfield 190, 3) := by decide +kernel
theorem dX2_read_112 : decode cX2_read 112 = .ok (.iconst 0, 1) := by decide +kernel
theorem dX2_read_113 : decode cX2_read 113 = .ok (.invokevirtual 168, 3) := by decide +kernel
theorem dX2_read_116 : decode cX2_read 116 = .ok (.aload_n 0, 1) := by decide +kernel
theorem dX2_read_117 : decode cX2_read 117 = .ok (.iload_n 1, 1) := by decide +kernel
theorem dX2_read_118 : decode cX2_read 118 = .ok (.invokevirtual 74, 3) := by decide +kernel
theorem dX2_read_121 : decode cX2_read 121 = .ok (.ireturn, 1) := by decide +kernel
theorem dX2_refusal_0 : decode cX2_refusal 0 = .ok (.iload_n 1, 1) := by decide +kernel
theorem dX2_refusal_1 : decode cX2_refusal 1 = .ok (.tableswitch 42 0 2 #[27, 32, 37], 27) := by decide +kernel
theorem dX2_refusal_28 : decode cX2_refusal 28 = .ok (.aload_n 0, 1) := by decide +kernel
theorem dX2_refusal_29 : decode cX2_refusal 29 = .ok (.getfield 57, 3) := by decide +kernel
theorem dX2_refusal_32 : decode cX2_refusal 32 = .ok (.ireturn, 1) := by decide +kernel
theorem dX2_refusal_33 : decode cX2_refusal 33 = .ok (.aload_n 0, 1) := by decide +kernel
theorem dX2_refusal_34 : decode cX2_refusal 34 = .ok (.getfield 60, 3) := by decide +kernel
theorem dX2_refusal_37 : decode cX2_refusal 37 = .ok (.ireturn, 1) := by decide +kernel
theorem dX2_refusal_38 : decode cX2_refusal 38 = .ok (.aload_n 0, 1) := by decide +kernel
theorem dX2_refusal_39 : decode cX2_refusal 39 = .ok (.getfield 63, 3) := by decide +kernel
theorem dX2_refusal_42 : decode cX2_refusal 42 = .ok (.ireturn, 1) := by decide +kernel
theorem dX2_refusal_43 : decode cX2_refusal 43 = .ok (.bipush (-2), 2) := by decide +kernel
theorem dX2_refusal_45 : decode cX2_refusal 45 = .ok (.ireturn, 1) := by decide +kernel
set_option maxRecDepth 20000 in
theorem ggX2_account_X2_greatestOf : GoodIn wsX2_account wsX2_greatestOf := goodIn_r _ [18, 19, 20, 21, 22] (by decide +kernel) (by decide +kernel)
set_option maxRecDepth 20000 in
theorem gX2_account_X2_greatestOf : GoodIn wsX2_account (va_wsS RX2 208 yX2_greatestOf wsX2_greatestOf) := goodIn_app (goodIn_of _ (by decide +kernel)) ggX2_account_X2_greatestOf
set_option maxRecDepth 20000 in
theorem ggX2_account_X2_sumOf : GoodIn wsX2_account wsX2_sumOf := goodIn_r _ [25] (by decide +kernel) (by decide +kernel)
set_option maxRecDepth 20000 in
theorem gX2_account_X2_sumOf : GoodIn wsX2_account (va_wsS RX2 212 yX2_sumOf wsX2_sumOf) := goodIn_app (goodIn_of _ (by decide +kernel)) ggX2_account_X2_sumOf
set_option maxRecDepth 20000 in
theorem ggX2_account_X0_openRoads : GoodIn wsX2_account wsX0_openRoads := goodIn_r _ [30, 31, 24, 17, 25, 58, 59, 60, 61, 62, 63, 64, 65, 66, 67, 68, 69, 70, 71, 72, 73] (by decide +kernel) (by decide +kernel)
set_option maxRecDepth 20000 in
theorem gX2_account_X0_openRoads : GoodIn wsX2_account (wsV RX2 215 RX0 yX0_openRoads wsX0_openRoads) := goodIn_app (goodIn_of _ (by decide +kernel)) ggX2_account_X0_openRoads
set_option maxRecDepth 20000 in
theorem ggX2_account_J4_length_8abf5 : GoodIn wsX2_account wsJ4_length_8abf5 := goodIn_r _ [36, 37, 38, 39, 40, 41, 42, 43, 80, 81, 82, 83] (by decide +kernel) (by decide +kernel)
set_option maxRecDepth 20000 in
theorem gX2_account_J4_length_8abf5 : GoodIn wsX2_account (wsV RX2 179 RJ4 yJ4_length_8abf5 wsJ4_length_8abf5) := goodIn_app (goodIn_of _ (by decide +kernel)) ggX2_account_J4_length_8abf5
theorem dX2_account_0 : decode cX2_account 0 = .ok (.iload_n 1, 1) := by decide +kernel
theorem dX2_account_1 : decode cX2_account 1 = .ok (.tableswitch 183 0 12 #[67, 78, 89, 100, 108, 116, 124, 132, 140, 148, 159, 167, 178], 67) := by decide +kernel
theorem dX2_account_68 : decode cX2_account 68 = .ok (.aload_n 0, 1) := by decide +kernel
theorem dX2_account_69 : decode cX2_account 69 = .ok (.getfield 10, 3) := by decide +kernel
theorem dX2_account_72 : decode cX2_account 72 = .ok (.getfield 98, 3) := by decide +kernel
theorem dX2_account_75 : decode cX2_account 75 = .ok (.invokestatic 208, 3) := by decide +kernel
theorem dX2_account_78 : decode cX2_account 78 = .ok (.ireturn, 1) := by decide +kernel
theorem dX2_account_79 : decode cX2_account 79 = .ok (.aload_n 0, 1) := by decide +kernel
theorem dX2_account_80 : decode cX2_account 80 = .ok (.getfield 10, 3) := by decide +kernel
theorem dX2_account_83 : decode cX2_account 83 = .ok (.getfield 105, 3) := by decide +kernel
theorem dX2_account_86 : decode cX2_account 86 = .ok (.invokestatic 212, 3) := by decide +kernel
theorem dX2_account_89 : decode cX2_account 89 = .ok (.ireturn, 1) := by decide +kernel
theorem dX2_account_90 : decode cX2_account 90 = .ok (.aload_n 0, 1) := by decide +kernel
theorem dX2_account_91 : decode cX2_account 91 = .ok (.getfield 10, 3) := by decide +kernel
theorem dX2_account_94 : decode cX2_account 94 = .ok (.getfield 108, 3) := by decide +kernel
theorem dX2_account_97 : decode cX2_account 97 = .ok (.invokestatic 212, 3) := by decide +kernel
theorem dX2_account_100 : decode cX2_account 100 = .ok (.ireturn, 1) := by decide +kernel
theorem dX2_account_101 : decode cX2_account 101 = .ok (.aload_n 0, 1) := by decide +kernel
theorem dX2_account_102 : decode cX2_account 102 = .ok (.getfield 10, 3) := by decide +kernel
theorem dX2_account_105 : decode cX2_account 105 = .ok (.invokevirtual 215, 3) := by decide +kernel
theorem dX2_account_108 : decode cX2_account 108 = .ok (.ireturn, 1) := by decide +kernel
theorem dX2_account_109 : decode cX2_account 109 = .ok (.aload_n 0, 1) := by decide +kernel
theorem dX2_account_110 : decode cX2_account 110 = .ok (.getfield 10, 3) := by decide +kernel
theorem dX2_account_113 : decode cX2_account 113 = .ok (.getfield 218, 3) := by decide +kernel
theorem dX2_account_116 : decode cX2_account 116 = .ok (.ireturn, 1) := by decide +kernel
theorem dX2_account_117 : decode cX2_account 117 = .ok (.aload_n 0, 1) := by decide +kernel
theorem dX2_account_118 : decode cX2_account 118 = .ok (.getfield 10, 3) := by decide +kernel
theorem dX2_account_121 : decode cX2_account 121 = .ok (.getfield 221, 3) := by decide +kernel
theorem dX2_account_124 : decode cX2_account 124 = .ok (.ireturn, 1) := by decide +kernel
theorem dX2_account_125 : decode cX2_account 125 = .ok (.aload_n 0, 1) := by decide +kernel
theorem dX2_account_126 : decode cX2_account 126 = .ok (.getfield 10, 3) := by decide +kernel
theorem dX2_account_129 : decode cX2_account 129 = .ok (.getfield 224, 3) := by decide +kernel
theorem dX2_account_132 : decode cX2_account 132 = .ok (.ireturn, 1) := by decide +kernel
theorem dX2_account_133 : decode cX2_account 133 = .ok (.aload_n 0, 1) := by decide +kernel
theorem dX2_account_134 : decode cX2_account 134 = .ok (.getfield 10, 3) := by decide +kernel
theorem dX2_account_137 : decode cX2_account 137 = .ok (.getfield 227, 3) := by decide +kernel
theorem dX2_account_140 : decode cX2_account 140 = .ok (.ireturn, 1) := by decide +kernel
theorem dX2_account_141 : decode cX2_account 141 = .ok (.aload_n 0, 1) := by decide +kernel
theorem dX2_account_142 : decode cX2_account 142 = .ok (.getfield 10, 3) := by decide +kernel
theorem dX2_account_145 : decode cX2_account 145 = .ok (.getfield 230, 3) := by decide +kernel
theorem dX2_account_148 : decode cX2_account 148 = .ok (.ireturn, 1) := by decide +kernel
theorem dX2_account_149 : decode cX2_account 149 = .ok (.aload_n 0, 1) := by decide +kernel
theorem dX2_account_150 : decode cX2_account 150 = .ok (.getfield 10, 3) := by decide +kernel
theorem dX2_account_153 : decode cX2_account 153 = .ok (.getfield 114, 3) := by decide +kernel
theorem dX2_account_156 : decode cX2_account 156 = .ok (.invokestatic 208, 3) := by decide +kernel
theorem dX2_account_159 : decode cX2_account 159 = .ok (.ireturn, 1) := by decide +kernel
theorem dX2_account_160 : decode cX2_account 160 = .ok (.aload_n 0, 1) := by decide +kernel
theorem dX2_account_161 : decode cX2_account 161 = .ok (.getfield 10, 3) := by decide +kernel
theorem dX2_account_164 : decode cX2_account 164 = .ok (.getfield 233, 3) := by decide +kernel
theorem dX2_account_167 : decode cX2_account 167 = .ok (.ireturn, 1) := by decide +kernel
theorem dX2_account_168 : decode cX2_account 168 = .ok (.aload_n 0, 1) := by decide +kernel
theorem dX2_account_169 : decode cX2_account 169 = .ok (.getfield 43, 3) := by decide +kernel
theorem dX2_account_172 : decode cX2_account 172 = .ok (.getfield 190, 3) := by decide +kernel
theorem dX2_account_175 : decode cX2_account 175 = .ok (.invokevirtual 179, 3) := by decide +kernel
theorem dX2_account_178 : decode cX2_account 178 = .ok (.ireturn, 1) := by decide +kernel
theorem dX2_account_179 : decode cX2_account 179 = .ok (.aload_n 0, 1) := by decide +kernel
theorem dX2_account_180 : decode cX2_account 180 = .ok (.getfield 37, 3) := by decide +kernel
theorem dX2_account_183 : decode cX2_account 183 = .ok (.ireturn, 1) := by decide +kernel
theorem dX2_account_184 : decode cX2_account 184 = .ok (.bipush (-2), 2) := by decide +kernel
theorem dX2_account_186 : decode cX2_account 186 = .ok (.ireturn, 1) := by decide +kernel
set_option maxRecDepth 20000 in
theorem ggX2_isWell_X0_isAllWell : GoodIn wsX2_isWell wsX0_isAllWell := goodIn_r _ [6, 7, 8, 9, 10, 5, 11, 12, 13, 14, 15, 16, 17, 18, 19, 20, 21, 22, 23, 24, 25, 26, 27, 28, 29, 30, 31, 32, 47, 48, 49, 50, 51, 52, 53, 54, 55, 56, 57, 58, 59, 60, 61, 62] (by decide +kernel) (by decide +kernel)
set_option maxRecDepth 20000 in
theorem gX2_isWell_X0_isAllWell : GoodIn wsX2_isWell (wsV RX2 236 RX0 yX0_isAllWell wsX0_isAllWell) := goodIn_app (goodIn_of _ (by decide +kernel)) ggX2_isWell_X0_isAllWell
theorem dX2_isWell_0 : decode cX2_isWell 0 = .ok (.aload_n 0, 1) := by decide +kernel
theorem dX2_isWell_1 : decode cX2_isWell 1 = .ok (.getfield 10, 3) := by decide +kernel
theorem dX2_isWell_4 : decode cX2_isWell 4 = .ok (.invokevirtual 236, 3) := by decide +kernel
theorem dX2_isWell_7 : decode cX2_isWell 7 = .ok (.ifCond .eq 7, 3) := by decide +kernel
theorem dX2_isWell_10 : decode cX2_isWell 10 = .ok (.iconst 1, 1) := by decide +kernel
theorem dX2_isWell_11 : decode cX2_isWell 11 = .ok (.goto 4, 3) := by decide +kernel
theorem dX2_isWell_14 : decode cX2_isWell 14 = .ok (.iconst 0, 1) := by decide +kernel
theorem dX2_isWell_15 : decode cX2_isWell 15 = .ok (.ireturn, 1) := by decide +kernel
set_option maxRecDepth 20000 in
theorem ggX2_share_X2_sumOf : GoodIn wsX2_share wsX2_sumOf := goodIn_r _ [7] (by decide +kernel) (by decide +kernel)
set_option maxRecDepth 20000 in
theorem gX2_share_X2_sumOf : GoodIn wsX2_share (va_wsS RX2 212 yX2_sumOf wsX2_sumOf) := goodIn_app (goodIn_of _ (by decide +kernel)) ggX2_share_X2_sumOf
set_option maxRecDepth 20000 in
theorem ggX2_share_X2_bitsOf : GoodIn wsX2_share wsX2_bitsOf := goodIn_r _ [10, 11] (by decide +kernel) (by decide +kernel)
set_option maxRecDepth 20000 in
theorem gX2_share_X2_bitsOf : GoodIn wsX2_share (va_wsS RX2 239 yX2_bitsOf wsX2_bitsOf) := goodIn_app (goodIn_of _ (by decide +kernel)) ggX2_share_X2_bitsOf
theorem dX2_share_0 : decode cX2_share 0 = .ok (.aload_n 0, 1) := by decide +kernel
theorem dX2_share_1 : decode cX2_share 1 = .ok (.getfield 10, 3) := by decide +kernel
theorem dX2_share_4 : decode cX2_share 4 = .ok (.getfield 111, 3) := by decide +kernel
theorem dX2_share_7 : decode cX2_share 7 = .ok (.invokestatic 212, 3) := by decide +kernel
theorem dX2_share_10 : decode cX2_share 10 = .ok (.istore_n 1, 1) := by decide +kernel
theorem dX2_share_11 : decode cX2_share 11 = .ok (.iload_n 1, 1) := by decide +kernel
theorem dX2_share_12 : decode cX2_share 12 = .ok (.ifCond .ne 6, 3) := by decide +kernel
theorem dX2_share_15 : decode cX2_share 15 = .ok (.bipush (-4), 2) := by decide +kernel
theorem dX2_share_17 : decode cX2_share 17 = .ok (.ireturn, 1) := by decide +kernel
theorem dX2_share_18 : decode cX2_share 18 = .ok (.aload_n 0, 1) := by decide +kernel
theorem dX2_share_19 : decode cX2_share 19 = .ok (.getfield 10, 3) := by decide +kernel
theorem dX2_share_22 : decode cX2_share 22 = .ok (.getfield 114, 3) := by decide +kernel
theorem dX2_share_25 : decode cX2_share 25 = .ok (.invokestatic 212, 3) := by decide +kernel
theorem dX2_share_28 : decode cX2_share 28 = .ok (.i2f, 1) := by decide +kernel
theorem dX2_share_29 : decode cX2_share 29 = .ok (.iload_n 1, 1) := by decide +kernel
theorem dX2_share_30 : decode cX2_share 30 = .ok (.i2f, 1) := by decide +kernel
theorem dX2_share_31 : decode cX2_share 31 = .ok (.fdiv, 1) := by decide +kernel
theorem dX2_share_32 : decode cX2_share 32 = .ok (.invokestatic 239, 3) := by decide +kernel
theorem dX2_share_35 : decode cX2_share 35 = .ok (.ireturn, 1) := by decide +kernel
set_option maxRecDepth 20000 in
theorem ggX2_undo_X0_copyFrom : GoodIn wsX2_undo wsX0_copyFrom := goodIn_r _ [9, 10, 11, 12, 13, 14, 15, 16, 17, 18, 19, 20, 21, 22, 23, 24, 25, 26, 27, 28, 29, 44, 45, 46, 47, 48, 49, 50, 51, 52, 53, 54, 55, 56, 57, 58, 59] (by decide +kernel) (by decide +kernel)
set_option maxRecDepth 20000 in
theorem gX2_undo_X0_copyFrom : GoodIn wsX2_undo (wsV RX2 66 RX0 yX0_copyFrom wsX0_copyFrom) := goodIn_app (goodIn_of _ (by decide +kernel)) ggX2_undo_X0_copyFrom
theorem dX2_undo_0 : decode cX2_undo 0 = .ok (.aload_n 0, 1) := by decide +kernel
theorem dX2_undo_1 : decode cX2_undo 1 = .ok (.getfield 29, 3) := by decide +kernel
theorem dX2_undo_4 : decode cX2_undo 4 = .ok (.aload_n 0, 1) := by decide +kernel
theorem dX2_undo_5 : decode cX2_undo 5 = .ok (.getfield 33, 3) := by decide +kernel
theorem dX2_undo_8 : decode cX2_undo 8 = .ok (.aaload, 1) := by decide +kernel
theorem dX2_undo_9 : decode cX2_undo 9 = .ok (.astore_n 1, 1) := by decide +kernel
theorem dX2_undo_10 : decode cX2_undo 10 = .ok (.aload_n 0, 1) := by decide +kernel
theorem dX2_undo_11 : decode cX2_undo 11 = .ok (.getfield 37, 3) := by decide +kernel
theorem dX2_undo_14 : decode cX2_undo 14 = .ok (.ifCond .eq 7, 3) := by decide +kernel
theorem dX2_undo_17 : decode cX2_undo 17 = .ok (.aload_n 1, 1) := by decide +kernel
theorem dX2_undo_18 : decode cX2_undo 18 = .ok (.ifnonnull 6, 3) := by decide +kernel
theorem dX2_undo_21 : decode cX2_undo 21 = .ok (.bipush (-4), 2) := by decide +kernel
theorem dX2_undo_23 : decode cX2_undo 23 = .ok (.ireturn, 1) := by decide +kernel
theorem dX2_undo_24 : decode cX2_undo 24 = .ok (.aload_n 0, 1) := by decide +kernel
theorem dX2_undo_25 : decode cX2_undo 25 = .ok (.getfield 10, 3) := by decide +kernel
theorem dX2_undo_28 : decode cX2_undo 28 = .ok (.aload_n 1, 1) := by decide +kernel
theorem dX2_undo_29 : decode cX2_undo 29 = .ok (.invokevirtual 66, 3) := by decide +kernel
theorem dX2_undo_32 : decode cX2_undo 32 = .ok (.aload_n 0, 1) := by decide +kernel
theorem dX2_undo_33 : decode cX2_undo 33 = .ok (.aload_n 0, 1) := by decide +kernel
theorem dX2_undo_34 : decode cX2_undo 34 = .ok (.getfield 33, 3) := by decide +kernel
theorem dX2_undo_37 : decode cX2_undo 37 = .ok (.bipush 8, 2) := by decide +kernel
theorem dX2_undo_39 : decode cX2_undo 39 = .ok (.iadd, 1) := by decide +kernel
theorem dX2_undo_40 : decode cX2_undo 40 = .ok (.iconst 1, 1) := by decide +kernel
theorem dX2_undo_41 : decode cX2_undo 41 = .ok (.isub, 1) := by decide +kernel
theorem dX2_undo_42 : decode cX2_undo 42 = .ok (.bipush 8, 2) := by decide +kernel
theorem dX2_undo_44 : decode cX2_undo 44 = .ok (.irem, 1) := by decide +kernel
theorem dX2_undo_45 : decode cX2_undo 45 = .ok (.putfield 33, 3) := by decide +kernel
theorem dX2_undo_48 : decode cX2_undo 48 = .ok (.aload_n 0, 1) := by decide +kernel
theorem dX2_undo_49 : decode cX2_undo 49 = .ok (.dup, 1) := by decide +kernel
theorem dX2_undo_50 : decode cX2_undo 50 = .ok (.getfield 37, 3) := by decide +kernel
theorem dX2_undo_53 : decode cX2_undo 53 = .ok (.iconst 1, 1) := by decide +kernel
theorem dX2_undo_54 : decode cX2_undo 54 = .ok (.isub, 1) := by decide +kernel
theorem dX2_undo_55 : decode cX2_undo 55 = .ok (.putfield 37, 3) := by decide +kernel
theorem dX2_undo_58 : decode cX2_undo 58 = .ok (.aload_n 0, 1) := by decide +kernel
theorem dX2_undo_59 : decode cX2_undo 59 = .ok (.getfield 37, 3) := by decide +kernel
theorem dX2_undo_62 : decode cX2_undo 62 = .ok (.ireturn, 1) := by decide +kernel
set_option maxRecDepth 20000 in
theorem ggX2_save_X0_copyFrom : GoodIn wsX2_save wsX0_copyFrom := goodIn_r _ [9, 10, 11, 12, 13, 14, 15, 16, 17, 18, 19, 20, 21, 22, 23, 24, 25, 26, 27, 28, 29, 44, 45, 46, 47, 48, 49, 50, 51, 52, 53, 54, 55, 56, 57, 58, 59] (by decide +kernel) (by decide +kernel)
set_option maxRecDepth 20000 in
theorem gX2_save_X0_copyFrom : GoodIn wsX2_save (wsV RX2 66 RX0 yX0_copyFrom wsX0_copyFrom) := goodIn_app (goodIn_of _ (by decide +kernel)) ggX2_save_X0_copyFrom
theorem dX2_save_0 : decode cX2_save 0 = .ok (.aload_n 0, 1) := by decide +kernel
theorem dX2_save_1 : decode cX2_save 1 = .ok (.getfield 22, 3) := by decide +kernel
theorem dX2_save_4 : decode cX2_save 4 = .ok (.aload_n 0, 1) := by decide +kernel
theorem dX2_save_5 : decode cX2_save 5 = .ok (.getfield 10, 3) := by decide +kernel
theorem dX2_save_8 : decode cX2_save 8 = .ok (.invokevirtual 66, 3) := by decide +kernel
theorem dX2_save_11 : decode cX2_save 11 = .ok (.aload_n 0, 1) := by decide +kernel
theorem dX2_save_12 : decode cX2_save 12 = .ok (.iconst 1, 1) := by decide +kernel
theorem dX2_save_13 : decode cX2_save 13 = .ok (.putfield 25, 3) := by decide +kernel
theorem dX2_save_16 : decode cX2_save 16 = .ok (.aload_n 0, 1) := by decide +kernel
theorem dX2_save_17 : decode cX2_save 17 = .ok (.getfield 10, 3) := by decide +kernel
theorem dX2_save_20 : decode cX2_save 20 = .ok (.getfield 233, 3) := by decide +kernel
theorem dX2_save_23 : decode cX2_save 23 = .ok (.ireturn, 1) := by decide +kernel
set_option maxRecDepth 20000 in
theorem ggX2_restore_X0_copyFrom : GoodIn wsX2_restore wsX0_copyFrom := goodIn_r _ [10, 11, 12, 13, 14, 15, 16, 17, 18, 19, 20, 21, 22, 23, 24, 25, 26, 27, 28, 29, 30, 45, 46, 47, 48, 49, 50, 51, 52, 53, 54, 55, 56, 57, 58, 59, 60] (by decide +kernel) (by decide +kernel)
set_option maxRecDepth 20000 in
theorem gX2_restore_X0_copyFrom : GoodIn wsX2_restore (wsV RX2 66 RX0 yX0_copyFrom wsX0_copyFrom) := goodIn_app (goodIn_of _ (by decide +kernel)) ggX2_restore_X0_copyFrom
theorem dX2_restore_0 : decode cX2_restore 0 = .ok (.aload_n 0, 1) := by decide +kernel
theorem dX2_restore_1 : decode cX2_restore 1 = .ok (.getfield 25, 3) := by decide +kernel
theorem dX2_restore_4 : decode cX2_restore 4 = .ok (.ifCond .ne 6, 3) := by decide +kernel
theorem dX2_restore_7 : decode cX2_restore 7 = .ok (.bipush (-4), 2) := by decide +kernel
theorem dX2_restore_9 : decode cX2_restore 9 = .ok (.ireturn, 1) := by decide +kernel
theorem dX2_restore_10 : decode cX2_restore 10 = .ok (.aload_n 0, 1) := by decide +kernel
theorem dX2_restore_11 : decode cX2_restore 11 = .ok (.getfield 10, 3) := by decide +kernel
theorem dX2_restore_14 : decode cX2_restore 14 = .ok (.aload_n 0, 1) := by decide +kernel
theorem dX2_restore_15 : decode cX2_restore 15 = .ok (.getfield 22, 3) := by decide +kernel
theorem dX2_restore_18 : decode cX2_restore 18 = .ok (.invokevirtual 66, 3) := by decide +kernel
theorem dX2_restore_21 : decode cX2_restore 21 = .ok (.aload_n 0, 1) := by decide +kernel
theorem dX2_restore_22 : decode cX2_restore 22 = .ok (.iconst 0, 1) := by decide +kernel
theorem dX2_restore_23 : decode cX2_restore 23 = .ok (.putfield 37, 3) := by decide +kernel
theorem dX2_restore_26 : decode cX2_restore 26 = .ok (.aload_n 0, 1) := by decide +kernel
theorem dX2_restore_27 : decode cX2_restore 27 = .ok (.getfield 10, 3) := by decide +kernel
theorem dX2_restore_30 : decode cX2_restore 30 = .ok (.getfield 233, 3) := by decide +kernel
theorem dX2_restore_33 : decode cX2_restore 33 = .ok (.ireturn, 1) := by decide +kernel
set_option maxRecDepth 20000 in
theorem ggX2_bringDusk_X2_isNoCamp : GoodIn wsX2_bringDusk wsX2_isNoCamp := goodIn_r _ [8] (by decide +kernel) (by decide +kernel)
set_option maxRecDepth 20000 in
theorem gX2_bringDusk_X2_isNoCamp : GoodIn wsX2_bringDusk (va_wsS RX2 94 yX2_isNoCamp wsX2_isNoCamp) := goodIn_app (goodIn_of _ (by decide +kernel)) ggX2_bringDusk_X2_isNoCamp
set_option maxRecDepth 20000 in
theorem ggX2_bringDusk_X2_refuse : GoodIn wsX2_bringDusk wsX2_refuse := goodIn_r _ [12, 13, 14, 15, 16, 48, 49, 50, 51, 52, 53, 54, 55, 56, 57, 58, 59, 60, 61] (by decide +kernel) (by decide +kernel)
set_option maxRecDepth 20000 in
theorem gX2_bringDusk_X2_refuse : GoodIn wsX2_bringDusk (wsV RX2 243 RX2 yX2_refuse wsX2_refuse) := goodIn_app (goodIn_of _ (by decide +kernel)) ggX2_bringDusk_X2_refuse
set_option maxRecDepth 20000 in
theorem ggX2_bringDusk_X0_askForVotes : GoodIn wsX2_bringDusk wsX0_askForVotes := goodIn_r _ [21, 22, 23, 24, 25, 26, 27, 28, 29, 30, 20, 31, 32, 33, 34, 35, 36, 37, 38, 39, 40, 41, 42, 43, 44, 45, 46, 47, 62, 63, 64, 65, 66, 67, 68, 69, 70, 71, 72, 73, 74, 75, 76, 77] (by decide +kernel) (by decide +kernel)
set_option maxRecDepth 20000 in
theorem gX2_bringDusk_X0_askForVotes : GoodIn wsX2_bringDusk (wsV RX2 155 RX0 yX0_askForVotes wsX0_askForVotes) := goodIn_app (goodIn_of _ (by decide +kernel)) ggX2_bringDusk_X0_askForVotes
theorem dX2_bringDusk_0 : decode cX2_bringDusk 0 = .ok (.iload_n 1, 1) := by decide +kernel
theorem dX2_bringDusk_1 : decode cX2_bringDusk 1 = .ok (.invokestatic 94, 3) := by decide +kernel
theorem dX2_bringDusk_4 : decode cX2_bringDusk 4 = .ok (.ifCond .eq 5, 3) := by decide +kernel
theorem dX2_bringDusk_7 : decode cX2_bringDusk 7 = .ok (.iconst (-1), 1) := by decide +kernel
theorem dX2_bringDusk_8 : decode cX2_bringDusk 8 = .ok (.ireturn, 1) := by decide +kernel
theorem dX2_bringDusk_9 : decode cX2_bringDusk 9 = .ok (.aload_n 0, 1) := by decide +kernel
theorem dX2_bringDusk_10 : decode cX2_bringDusk 10 = .ok (.getfield 10, 3) := by decide +kernel
theorem dX2_bringDusk_13 : decode cX2_bringDusk 13 = .ok (.getfield 108, 3) := by decide +kernel
theorem dX2_bringDusk_16 : decode cX2_bringDusk 16 = .ok (.iload_n 1, 1) := by decide +kernel
theorem dX2_bringDusk_17 : decode cX2_bringDusk 17 = .ok (.iaload, 1) := by decide +kernel
theorem dX2_bringDusk_18 : decode cX2_bringDusk 18 = .ok (.ifCond .ne 10, 3) := by decide +kernel
theorem dX2_bringDusk_21 : decode cX2_bringDusk 21 = .ok (.aload_n 0, 1) := by decide +kernel
theorem dX2_bringDusk_22 : decode cX2_bringDusk 22 = .ok (.iconst 1, 1) := by decide +kernel
theorem dX2_bringDusk_23 : decode cX2_bringDusk 23 = .ok (.iload_n 1, 1) := by decide +kernel
theorem dX2_bringDusk_24 : decode cX2_bringDusk 24 = .ok (.invokevirtual 243, 3) := by decide +kernel
theorem dX2_bringDusk_27 : decode cX2_bringDusk 27 = .ok (.ireturn, 1) := by decide +kernel
theorem dX2_bringDusk_28 : decode cX2_bringDusk 28 = .ok (.aload_n 0, 1) := by decide +kernel
theorem dX2_bringDusk_29 : decode cX2_bringDusk 29 = .ok (.getfield 10, 3) := by decide +kernel
theorem dX2_bringDusk_32 : decode cX2_bringDusk 32 = .ok (.getfield 105, 3) := by decide +kernel
theorem dX2_bringDusk_35 : decode cX2_bringDusk 35 = .ok (.iload_n 1, 1) := by decide +kernel
theorem dX2_bringDusk_36 : decode cX2_bringDusk 36 = .ok (.iaload, 1) := by decide +kernel
theorem dX2_bringDusk_37 : decode cX2_bringDusk 37 = .ok (.iconst 1, 1) := by decide +kernel
theorem dX2_bringDusk_38 : decode cX2_bringDusk 38 = .ok (.if_icmp .ne 18, 3) := by decide +kernel
theorem dX2_bringDusk_41 : decode cX2_bringDusk 41 = .ok (.aload_n 0, 1) := by decide +kernel
theorem dX2_bringDusk_42 : decode cX2_bringDusk 42 = .ok (.iconst 2, 1) := by decide +kernel
theorem dX2_bringDusk_43 : decode cX2_bringDusk 43 = .ok (.aload_n 0, 1) := by decide +kernel
theorem dX2_bringDusk_44 : decode cX2_bringDusk 44 = .ok (.getfield 10, 3) := by decide +kernel
theorem dX2_bringDusk_47 : decode cX2_bringDusk 47 = .ok (.getfield 98, 3) := by decide +kernel
theorem dX2_bringDusk_50 : decode cX2_bringDusk 50 = .ok (.iload_n 1, 1) := by decide +kernel
theorem dX2_bringDusk_51 : decode cX2_bringDusk 51 = .ok (.iaload, 1) := by decide +kernel
theorem dX2_bringDusk_52 : decode cX2_bringDusk 52 = .ok (.invokevirtual 243, 3) := by decide +kernel
theorem dX2_bringDusk_55 : decode cX2_bringDusk 55 = .ok (.ireturn, 1) := by decide +kernel
theorem dX2_bringDusk_56 : decode cX2_bringDusk 56 = .ok (.aload_n 0, 1) := by decide +kernel
theorem dX2_bringDusk_57 : decode cX2_bringDusk 57 = .ok (.getfield 10, 3) := by decide +kernel
theorem dX2_bringDusk_60 : decode cX2_bringDusk 60 = .ok (.iload_n 1, 1) := by decide +kernel
theorem dX2_bringDusk_61 : decode cX2_bringDusk 61 = .ok (.invokevirtual 155, 3) := by decide +kernel
theorem dX2_bringDusk_64 : decode cX2_bringDusk 64 = .ok (.ireturn, 1) := by decide +kernel
set_option maxRecDepth 20000 in
theorem ggX2_writePage_X2_isNoCamp : GoodIn wsX2_writePage wsX2_isNoCamp := goodIn_r _ [9] (by decide +kernel) (by decide +kernel)
set_option maxRecDepth 20000 in
theorem gX2_writePage_X2_isNoCamp : GoodIn wsX2_writePage (va_wsS RX2 94 yX2_isNoCamp wsX2_isNoCamp) := goodIn_app (goodIn_of _ (by decide +kernel)) ggX2_writePage_X2_isNoCamp
set_option maxRecDepth 20000 in
theorem ggX2_writePage_X2_isNoLetter : GoodIn wsX2_writePage wsX2_isNoLetter := goodIn_r _ [12] (by decide +kernel) (by decide +kernel)
set_option maxRecDepth 20000 in
theorem gX2_writePage_X2_isNoLetter : GoodIn wsX2_writePage (va_wsS RX2 149 yX2_isNoLetter wsX2_isNoLetter) := goodIn_app (goodIn_of _ (by decide +kernel)) ggX2_writePage_X2_isNoLetter
set_option maxRecDepth 20000 in
theorem ggX2_writePage_X2_refuse : GoodIn wsX2_writePage wsX2_refuse := goodIn_r _ [16, 17, 18, 19, 20, 31, 32, 33, 34, 35, 36, 37, 38, 39, 40, 41, 42, 43, 44] (by decide +kernel) (by decide +kernel)
set_option maxRecDepth 20000 in
theorem gX2_writePage_X2_refuse : GoodIn wsX2_writePage (wsV RX2 243 RX2 yX2_refuse wsX2_refuse) := goodIn_app (goodIn_of _ (by decide +kernel)) ggX2_writePage_X2_refuse
set_option maxRecDepth 20000 in
theorem ggX2_writePage_X0_addPage : GoodIn wsX2_writePage wsX0_addPage := goodIn_r _ [25, 26, 27, 28, 29, 30, 45, 46, 47, 48, 49, 50, 51, 52, 53, 54, 55, 56, 57, 58, 59, 60] (by decide +kernel) (by decide +kernel)
set_option maxRecDepth 20000 in
theorem gX2_writePage_X0_addPage : GoodIn wsX2_writePage (wsV RX2 246 RX0 yX0_addPage wsX0_addPage) := goodIn_app (goodIn_of _ (by decide +kernel)) ggX2_writePage_X0_addPage
theorem dX2_writePage_0 : decode cX2_writePage 0 = .ok (.iload_n 1, 1) := by decide +kernel
theorem dX2_writePage_1 : decode cX2_writePage 1 = .ok (.invokestatic 94, 3) := by decide +kernel
theorem dX2_writePage_4 : decode cX2_writePage 4 = .ok (.ifCond .ne 10, 3) := by decide +kernel
theorem dX2_writePage_7 : decode cX2_writePage 7 = .ok (.iload_n 2, 1) := by decide +kernel
theorem dX2_writePage_8 : decode cX2_writePage 8 = .ok (.invokestatic 149, 3) := by decide +kernel
theorem dX2_writePage_11 : decode cX2_writePage 11 = .ok (.ifCond .eq 5, 3) := by decide +kernel
theorem dX2_writePage_14 : decode cX2_writePage 14 = .ok (.iconst (-1), 1) := by decide +kernel
theorem dX2_writePage_15 : decode cX2_writePage 15 = .ok (.ireturn, 1) := by decide +kernel
theorem dX2_writePage_16 : decode cX2_writePage 16 = .ok (.aload_n 0, 1) := by decide +kernel
theorem dX2_writePage_17 : decode cX2_writePage 17 = .ok (.getfield 10, 3) := by decide +kernel
theorem dX2_writePage_20 : decode cX2_writePage 20 = .ok (.getfield 108, 3) := by decide +kernel
theorem dX2_writePage_23 : decode cX2_writePage 23 = .ok (.iload_n 1, 1) := by decide +kernel
theorem dX2_writePage_24 : decode cX2_writePage 24 = .ok (.iaload, 1) := by decide +kernel
theorem dX2_writePage_25 : decode cX2_writePage 25 = .ok (.ifCond .ne 10, 3) := by decide +kernel
theorem dX2_writePage_28 : decode cX2_writePage 28 = .ok (.aload_n 0, 1) := by decide +kernel
theorem dX2_writePage_29 : decode cX2_writePage 29 = .ok (.iconst 1, 1) := by decide +kernel
theorem dX2_writePage_30 : decode cX2_writePage 30 = .ok (.iload_n 1, 1) := by decide +kernel
theorem dX2_writePage_31 : decode cX2_writePage 31 = .ok (.invokevirtual 243, 3) := by decide +kernel
theorem dX2_writePage_34 : decode cX2_writePage 34 = .ok (.ireturn, 1) := by decide +kernel
theorem dX2_writePage_35 : decode cX2_writePage 35 = .ok (.aload_n 0, 1) := by decide +kernel
theorem dX2_writePage_36 : decode cX2_writePage 36 = .ok (.getfield 10, 3) := by decide +kernel
theorem dX2_writePage_39 : decode cX2_writePage 39 = .ok (.getfield 105, 3) := by decide +kernel
theorem dX2_writePage_42 : decode cX2_writePage 42 = .ok (.iload_n 1, 1) := by decide +kernel
theorem dX2_writePage_43 : decode cX2_writePage 43 = .ok (.iaload, 1) := by decide +kernel
theorem dX2_writePage_44 : decode cX2_writePage 44 = .ok (.ifCond .ne 18, 3) := by decide +kernel
theorem dX2_writePage_47 : decode cX2_writePage 47 = .ok (.aload_n 0, 1) := by decide +kernel
theorem dX2_writePage_48 : decode cX2_writePage 48 = .ok (.iconst 2, 1) := by decide +kernel
theorem dX2_writePage_49 : decode cX2_writePage 49 = .ok (.aload_n 0, 1) := by decide +kernel
theorem dX2_writePage_50 : decode cX2_writePage 50 = .ok (.getfield 10, 3) := by decide +kernel
theorem dX2_writePage_53 : decode cX2_writePage 53 = .ok (.getfield 98, 3) := by decide +kernel
theorem dX2_writePage_56 : decode cX2_writePage 56 = .ok (.iload_n 1, 1) := by decide +kernel
theorem dX2_writePage_57 : decode cX2_writePage 57 = .ok (.iaload, 1) := by decide +kernel
theorem dX2_writePage_58 : decode cX2_writePage 58 = .ok (.invokevirtual 243, 3) := by decide +kernel
theorem dX2_writePage_61 : decode cX2_writePage 61 = .ok (.ireturn, 1) := by decide +kernel
theorem dX2_writePage_62 : decode cX2_writePage 62 = .ok (.aload_n 0, 1) := by decide +kernel
theorem dX2_writePage_63 : decode cX2_writePage 63 = .ok (.getfield 10, 3) := by decide +kernel
theorem dX2_writePage_66 : decode cX2_writePage 66 = .ok (.getfield 111, 3) := by decide +kernel
theorem dX2_writePage_69 : decode cX2_writePage 69 = .ok (.iload_n 1, 1) := by decide +kernel
theorem dX2_writePage_70 : decode cX2_writePage 70 = .ok (.iaload, 1) := by decide +kernel
theorem dX2_writePage_71 : decode cX2_writePage 71 = .ok (.bipush 12, 2) := by decide +kernel
theorem dX2_writePage_73 : decode cX2_writePage 73 = .ok (.if_icmp .lt 11, 3) := by decide +kernel
theorem dX2_writePage_76 : decode cX2_writePage 76 = .ok (.aload_n 0, 1) := by decide +kernel
theorem dX2_writePage_77 : decode cX2_writePage 77 = .ok (.iconst 3, 1) := by decide +kernel
theorem dX2_writePage_78 : decode cX2_writePage 78 = .ok (.bipush 12, 2) := by decide +kernel
theorem dX2_writePage_80 : decode cX2_writePage 80 = .ok (.invokevirtual 243, 3) := by decide +kernel
theorem dX2_writePage_83 : decode cX2_writePage 83 = .ok (.ireturn, 1) := by decide +kernel
theorem dX2_writePage_84 : decode cX2_writePage 84 = .ok (.aload_n 0, 1) := by decide +kernel
theorem dX2_writePage_85 : decode cX2_writePage 85 = .ok (.getfield 10, 3) := by decide +kernel
theorem dX2_writePage_88 : decode cX2_writePage 88 = .ok (.iload_n 1, 1) := by decide +kernel
theorem dX2_writePage_89 : decode cX2_writePage 89 = .ok (.iload_n 2, 1) := by decide +kernel
theorem dX2_writePage_90 : decode cX2_writePage 90 = .ok (.invokevirtual 246, 3) := by decide +kernel
theorem dX2_writePage_93 : decode cX2_writePage 93 = .ok (.ireturn, 1) := by decide +kernel
set_option maxRecDepth 20000 in
theorem ggX2_sendCaptain_X2_isNoCamp : GoodIn wsX2_sendCaptain wsX2_isNoCamp := goodIn_r _ [9] (by decide +kernel) (by decide +kernel)
set_option maxRecDepth 20000 in
theorem gX2_sendCaptain_X2_isNoCamp : GoodIn wsX2_sendCaptain (va_wsS RX2 94 yX2_isNoCamp wsX2_isNoCamp) := goodIn_app (goodIn_of _ (by decide +kernel)) ggX2_sendCaptain_X2_isNoCamp
set_option maxRecDepth 20000 in
theorem ggX2_sendCaptain_X2_refuse : GoodIn wsX2_sendCaptain wsX2_refuse := goodIn_r _ [13, 14, 15, 16, 17, 63, 64, 65, 66, 67, 68, 69, 70, 71, 72, 73, 74, 75, 76] (by decide +kernel) (by decide +kernel)
set_option maxRecDepth 20000 in
theorem gX2_sendCaptain_X2_refuse : GoodIn wsX2_sendCaptain (wsV RX2 243 RX2 yX2_refuse wsX2_refuse) := goodIn_app (goodIn_of _ (by decide +kernel)) ggX2_sendCaptain_X2_refuse
set_option maxRecDepth 20000 in
theorem ggX2_sendCaptain_X0_goRound : GoodIn wsX2_sendCaptain wsX0_goRound := goodIn_r _ [22, 23, 24, 25, 26, 27, 21, 28, 29, 30, 31, 32, 33, 34, 35, 36, 37, 38, 39, 40, 41, 42, 43, 44, 45, 46, 47, 48, 49, 50, 51, 52, 53, 54, 55, 56, 57, 58, 59, 60, 61, 62, 77, 78, 79, 80, 81, 82, 83, 84, 85, 86, 87, 88, 89, 90, 91, 92] (by decide +kernel) (by decide +kernel)
set_option maxRecDepth 20000 in
theorem gX2_sendCaptain_X0_goRound : GoodIn wsX2_sendCaptain (wsV RX2 249 RX0 yX0_goRound wsX0_goRound) := goodIn_app (goodIn_of _ (by decide +kernel)) ggX2_sendCaptain_X0_goRound
theorem dX2_sendCaptain_0 : decode cX2_sendCaptain 0 = .ok (.iload_n 1, 1) := by decide +kernel
theorem dX2_sendCaptain_1 : decode cX2_sendCaptain 1 = .ok (.invokestatic 94, 3) := by decide +kernel
theorem dX2_sendCaptain_4 : decode cX2_sendCaptain 4 = .ok (.ifCond .eq 5, 3) := by decide +kernel
theorem dX2_sendCaptain_7 : decode cX2_sendCaptain 7 = .ok (.iconst (-1), 1) := by decide +kernel
theorem dX2_sendCaptain_8 : decode cX2_sendCaptain 8 = .ok (.ireturn, 1) := by decide +kernel
theorem dX2_sendCaptain_9 : decode cX2_sendCaptain 9 = .ok (.aload_n 0, 1) := by decide +kernel
theorem dX2_sendCaptain_10 : decode cX2_sendCaptain 10 = .ok (.getfield 10, 3) := by decide +kernel
theorem dX2_sendCaptain_13 : decode cX2_sendCaptain 13 = .ok (.getfield 108, 3) := by decide +kernel
theorem dX2_sendCaptain_16 : decode cX2_sendCaptain 16 = .ok (.iload_n 1, 1) := by decide +kernel
theorem dX2_sendCaptain_17 : decode cX2_sendCaptain 17 = .ok (.iaload, 1) := by decide +kernel
theorem dX2_sendCaptain_18 : decode cX2_sendCaptain 18 = .ok (.ifCond .ne 10, 3) := by decide +kernel
theorem dX2_sendCaptain_21 : decode cX2_sendCaptain 21 = .ok (.aload_n 0, 1) := by decide +kernel
theorem dX2_sendCaptain_22 : decode cX2_sendCaptain 22 = .ok (.iconst 1, 1) := by decide +kernel
theorem dX2_sendCaptain_23 : decode cX2_sendCaptain 23 = .ok (.iload_n 1, 1) := by decide +kernel
theorem dX2_sendCaptain_24 : decode cX2_sendCaptain 24 = .ok (.invokevirtual 243, 3) := by decide +kernel
theorem dX2_sendCaptain_27 : decode cX2_sendCaptain 27 = .ok (.ireturn, 1) := by decide +kernel
theorem dX2_sendCaptain_28 : decode cX2_sendCaptain 28 = .ok (.aload_n 0, 1) := by decide +kernel
theorem dX2_sendCaptain_29 : decode cX2_sendCaptain 29 = .ok (.getfield 10, 3) := by decide +kernel
theorem dX2_sendCaptain_32 : decode cX2_sendCaptain 32 = .ok (.getfield 105, 3) := by decide +kernel
theorem dX2_sendCaptain_35 : decode cX2_sendCaptain 35 = .ok (.iload_n 1, 1) := by decide +kernel
theorem dX2_sendCaptain_36 : decode cX2_sendCaptain 36 = .ok (.iaload, 1) := by decide +kernel
theorem dX2_sendCaptain_37 : decode cX2_sendCaptain 37 = .ok (.ifCond .ne 18, 3) := by decide +kernel
theorem dX2_sendCaptain_40 : decode cX2_sendCaptain 40 = .ok (.aload_n 0, 1) := by decide +kernel
theorem dX2_sendCaptain_41 : decode cX2_sendCaptain 41 = .ok (.iconst 2, 1) := by decide +kernel
theorem dX2_sendCaptain_42 : decode cX2_sendCaptain 42 = .ok (.aload_n 0, 1) := by decide +kernel
theorem dX2_sendCaptain_43 : decode cX2_sendCaptain 43 = .ok (.getfield 10, 3) := by decide +kernel
theorem dX2_sendCaptain_46 : decode cX2_sendCaptain 46 = .ok (.getfield 98, 3) := by decide +kernel
theorem dX2_sendCaptain_49 : decode cX2_sendCaptain 49 = .ok (.iload_n 1, 1) := by decide +kernel
theorem dX2_sendCaptain_50 : decode cX2_sendCaptain 50 = .ok (.iaload, 1) := by decide +kernel
theorem dX2_sendCaptain_51 : decode cX2_sendCaptain 51 = .ok (.invokevirtual 243, 3) := by decide +kernel
theorem dX2_sendCaptain_54 : decode cX2_sendCaptain 54 = .ok (.ireturn, 1) := by decide +kernel
theorem dX2_sendCaptain_55 : decode cX2_sendCaptain 55 = .ok (.aload_n 0, 1) := by decide +kernel
theorem dX2_sendCaptain_56 : decode cX2_sendCaptain 56 = .ok (.getfield 10, 3) := by decide +kernel
theorem dX2_sendCaptain_59 : decode cX2_sendCaptain 59 = .ok (.iload_n 1, 1) := by decide +kernel
theorem dX2_sendCaptain_60 : decode cX2_sendCaptain 60 = .ok (.invokevirtual 249, 3) := by decide +kernel
theorem dX2_sendCaptain_63 : decode cX2_sendCaptain 63 = .ok (.aload_n 0, 1) := by decide +kernel
theorem dX2_sendCaptain_64 : decode cX2_sendCaptain 64 = .ok (.getfield 10, 3) := by decide +kernel
theorem dX2_sendCaptain_67 : decode cX2_sendCaptain 67 = .ok (.getfield 114, 3) := by decide +kernel
theorem dX2_sendCaptain_70 : decode cX2_sendCaptain 70 = .ok (.iload_n 1, 1) := by decide +kernel
theorem dX2_sendCaptain_71 : decode cX2_sendCaptain 71 = .ok (.iaload, 1) := by decide +kernel
theorem dX2_sendCaptain_72 : decode cX2_sendCaptain 72 = .ok (.ireturn, 1) := by decide +kernel
set_option maxRecDepth 20000 in
theorem ggX2_turnRoad_X2_isNoCamp : GoodIn wsX2_turnRoad wsX2_isNoCamp := goodIn_r _ [6] (by decide +kernel) (by decide +kernel)
set_option maxRecDepth 20000 in
theorem gX2_turnRoad_X2_isNoCamp : GoodIn wsX2_turnRoad (va_wsS RX2 94 yX2_isNoCamp wsX2_isNoCamp) := goodIn_app (goodIn_of _ (by decide +kernel)) ggX2_turnRoad_X2_isNoCamp
set_option maxRecDepth 20000 in
theorem ggX2_turnRoad_X2_isNoSwitch : GoodIn wsX2_turnRoad wsX2_isNoSwitch := goodIn_r _ [9] (by decide +kernel) (by decide +kernel)
set_option maxRecDepth 20000 in
theorem gX2_turnRoad_X2_isNoSwitch : GoodIn wsX2_turnRoad (va_wsS RX2 252 yX2_isNoSwitch wsX2_isNoSwitch) := goodIn_app (goodIn_of _ (by decide +kernel)) ggX2_turnRoad_X2_isNoSwitch
set_option maxRecDepth 20000 in
theorem ggX2_turnRoad_X2_refuse : GoodIn wsX2_turnRoad wsX2_refuse := goodIn_r _ [13, 14, 15, 16, 17, 26, 27, 28, 29, 30, 31, 32, 33, 34, 35, 36, 37, 38, 39] (by decide +kernel) (by decide +kernel)
set_option maxRecDepth 20000 in
theorem gX2_turnRoad_X2_refuse : GoodIn wsX2_turnRoad (wsV RX2 243 RX2 yX2_refuse wsX2_refuse) := goodIn_app (goodIn_of _ (by decide +kernel)) ggX2_turnRoad_X2_refuse
set_option maxRecDepth 20000 in
theorem ggX2_turnRoad_X0_openRoads : GoodIn wsX2_turnRoad wsX0_openRoads := goodIn_r _ [22, 23, 24, 5, 25, 40, 41, 42, 43, 44, 45, 46, 47, 48, 49, 50, 51, 52, 53, 54, 55] (by decide +kernel) (by decide +kernel)
set_option maxRecDepth 20000 in
theorem gX2_turnRoad_X0_openRoads : GoodIn wsX2_turnRoad (wsV RX2 215 RX0 yX0_openRoads wsX0_openRoads) := goodIn_app (goodIn_of _ (by decide +kernel)) ggX2_turnRoad_X0_openRoads
theorem dX2_turnRoad_0 : decode cX2_turnRoad 0 = .ok (.iload_n 1, 1) := by decide +kernel
theorem dX2_turnRoad_1 : decode cX2_turnRoad 1 = .ok (.invokestatic 94, 3) := by decide +kernel
theorem dX2_turnRoad_4 : decode cX2_turnRoad 4 = .ok (.ifCond .ne 10, 3) := by decide +kernel
theorem dX2_turnRoad_7 : decode cX2_turnRoad 7 = .ok (.iload_n 2, 1) := by decide +kernel
theorem dX2_turnRoad_8 : decode cX2_turnRoad 8 = .ok (.invokestatic 94, 3) := by decide +kernel
theorem dX2_turnRoad_11 : decode cX2_turnRoad 11 = .ok (.ifCond .eq 5, 3) := by decide +kernel
theorem dX2_turnRoad_14 : decode cX2_turnRoad 14 = .ok (.iconst (-1), 1) := by decide +kernel
theorem dX2_turnRoad_15 : decode cX2_turnRoad 15 = .ok (.ireturn, 1) := by decide +kernel
theorem dX2_turnRoad_16 : decode cX2_turnRoad 16 = .ok (.iload_n 3, 1) := by decide +kernel
theorem dX2_turnRoad_17 : decode cX2_turnRoad 17 = .ok (.invokestatic 252, 3) := by decide +kernel
theorem dX2_turnRoad_20 : decode cX2_turnRoad 20 = .ok (.ifCond .eq 6, 3) := by decide +kernel
theorem dX2_turnRoad_23 : decode cX2_turnRoad 23 = .ok (.bipush (-2), 2) := by decide +kernel
theorem dX2_turnRoad_25 : decode cX2_turnRoad 25 = .ok (.ireturn, 1) := by decide +kernel
theorem dX2_turnRoad_26 : decode cX2_turnRoad 26 = .ok (.iload_n 1, 1) := by decide +kernel
theorem dX2_turnRoad_27 : decode cX2_turnRoad 27 = .ok (.iload_n 2, 1) := by decide +kernel
theorem dX2_turnRoad_28 : decode cX2_turnRoad 28 = .ok (.if_icmp .ne 10, 3) := by decide +kernel
theorem dX2_turnRoad_31 : decode cX2_turnRoad 31 = .ok (.aload_n 0, 1) := by decide +kernel
theorem dX2_turnRoad_32 : decode cX2_turnRoad 32 = .ok (.iconst 4, 1) := by decide +kernel
theorem dX2_turnRoad_33 : decode cX2_turnRoad 33 = .ok (.iload_n 1, 1) := by decide +kernel
theorem dX2_turnRoad_34 : decode cX2_turnRoad 34 = .ok (.invokevirtual 243, 3) := by decide +kernel
theorem dX2_turnRoad_37 : decode cX2_turnRoad 37 = .ok (.ireturn, 1) := by decide +kernel
theorem dX2_turnRoad_38 : decode cX2_turnRoad 38 = .ok (.aload_n 0, 1) := by decide +kernel
theorem dX2_turnRoad_39 : decode cX2_turnRoad 39 = .ok (.getfield 10, 3) := by decide +kernel
theorem dX2_turnRoad_42 : decode cX2_turnRoad 42 = .ok (.getfield 255, 3) := by decide +kernel
theorem dX2_turnRoad_45 : decode cX2_turnRoad 45 = .ok (.iload_n 1, 1) := by decide +kernel
theorem dX2_turnRoad_46 : decode cX2_turnRoad 46 = .ok (.iconst 5, 1) := by decide +kernel
theorem dX2_turnRoad_47 : decode cX2_turnRoad 47 = .ok (.imul, 1) := by decide +kernel
theorem dX2_turnRoad_48 : decode cX2_turnRoad 48 = .ok (.iload_n 2, 1) := by decide +kernel
theorem dX2_turnRoad_49 : decode cX2_turnRoad 49 = .ok (.iadd, 1) := by decide +kernel
theorem dX2_turnRoad_50 : decode cX2_turnRoad 50 = .ok (.iaload, 1) := by decide +kernel
theorem dX2_turnRoad_51 : decode cX2_turnRoad 51 = .ok (.iload_n 3, 1) := by decide +kernel
theorem dX2_turnRoad_52 : decode cX2_turnRoad 52 = .ok (.if_icmp .ne 10, 3) := by decide +kernel
theorem dX2_turnRoad_55 : decode cX2_turnRoad 55 = .ok (.aload_n 0, 1) := by decide +kernel
theorem dX2_turnRoad_56 : decode cX2_turnRoad 56 = .ok (.iconst 5, 1) := by decide +kernel
theorem dX2_turnRoad_57 : decode cX2_turnRoad 57 = .ok (.iload_n 3, 1) := by decide +kernel
theorem dX2_turnRoad_58 : decode cX2_turnRoad 58 = .ok (.invokevirtual 243, 3) := by decide +kernel
theorem dX2_turnRoad_61 : decode cX2_turnRoad 61 = .ok (.ireturn, 1) := by decide +kernel
theorem dX2_turnRoad_62 : decode cX2_turnRoad 62 = .ok (.aload_n 0, 1) := by decide +kernel
theorem dX2_turnRoad_63 : decode cX2_turnRoad 63 = .ok (.getfield 10, 3) := by decide +kernel
theorem dX2_turnRoad_66 : decode cX2_turnRoad 66 = .ok (.getfield 255, 3) := by decide +kernel
theorem dX2_turnRoad_69 : decode cX2_turnRoad 69 = .ok (.iload_n 1, 1) := by decide +kernel
theorem dX2_turnRoad_70 : decode cX2_turnRoad 70 = .ok (.iconst 5, 1) := by decide +kernel
theorem dX2_turnRoad_71 : decode cX2_turnRoad 71 = .ok (.imul, 1) := by decide +kernel
theorem dX2_turnRoad_72 : decode cX2_turnRoad 72 = .ok (.iload_n 2, 1) := by decide +kernel
theorem dX2_turnRoad_73 : decode cX2_turnRoad 73 = .ok (.iadd, 1) := by decide +kernel
theorem dX2_turnRoad_74 : decode cX2_turnRoad 74 = .ok (.iload_n 3, 1) := by decide +kernel
theorem dX2_turnRoad_75 : decode cX2_turnRoad 75 = .ok (.iastore, 1) := by decide +kernel
theorem dX2_turnRoad_76 : decode cX2_turnRoad 76 = .ok (.aload_n 0, 1) := by decide +kernel
theorem dX2_turnRoad_77 : decode cX2_turnRoad 77 = .ok (.getfield 10, 3) := by decide +kernel
theorem dX2_turnRoad_80 : decode cX2_turnRoad 80 = .ok (.getfield 255, 3) := by decide +kernel
theorem dX2_turnRoad_83 : decode cX2_turnRoad 83 = .ok (.iload_n 2, 1) := by decide +kernel
theorem dX2_turnRoad_84 : decode cX2_turnRoad 84 = .ok (.iconst 5, 1) := by decide +kernel
theorem dX2_turnRoad_85 : decode cX2_turnRoad 85 = .ok (.imul, 1) := by decide +kernel
theorem dX2_turnRoad_86 : decode cX2_turnRoad 86 = .ok (.iload_n 1, 1) := by decide +kernel
theorem dX2_turnRoad_87 : decode cX2_turnRoad 87 = .ok (.iadd, 1) := by decide +kernel
theorem dX2_turnRoad_88 : decode cX2_turnRoad 88 = .ok (.iload_n 3, 1) := by decide +kernel
theorem dX2_turnRoad_89 : decode cX2_turnRoad 89 = .ok (.iastore, 1) := by decide +kernel
theorem dX2_turnRoad_90 : decode cX2_turnRoad 90 = .ok (.aload_n 0, 1) := by decide +kernel
theorem dX2_turnRoad_91 : decode cX2_turnRoad 91 = .ok (.getfield 10, 3) := by decide +kernel
theorem dX2_turnRoad_94 : decode cX2_turnRoad 94 = .ok (.invokevirtual 215, 3) := by decide +kernel
theorem dX2_turnRoad_97 : decode cX2_turnRoad 97 = .ok (.ireturn, 1) := by decide +kernel
set_option maxRecDepth 20000 in
theorem ggX2_turnCamp_X2_isNoCamp : GoodIn wsX2_turnCamp wsX2_isNoCamp := goodIn_r _ [8] (by decide +kernel) (by decide +kernel)
set_option maxRecDepth 20000 in
theorem gX2_turnCamp_X2_isNoCamp : GoodIn wsX2_turnCamp (va_wsS RX2 94 yX2_isNoCamp wsX2_isNoCamp) := goodIn_app (goodIn_of _ (by decide +kernel)) ggX2_turnCamp_X2_isNoCamp
set_option maxRecDepth 20000 in
theorem ggX2_turnCamp_X2_isNoSwitch : GoodIn wsX2_turnCamp wsX2_isNoSwitch := goodIn_r _ [11] (by decide +kernel) (by decide +kernel)
set_option maxRecDepth 20000 in
theorem gX2_turnCamp_X2_isNoSwitch : GoodIn wsX2_turnCamp (va_wsS RX2 252 yX2_isNoSwitch wsX2_isNoSwitch) := goodIn_app (goodIn_of _ (by decide +kernel)) ggX2_turnCamp_X2_isNoSwitch
set_option maxRecDepth 20000 in
theorem ggX2_turnCamp_X2_refuse : GoodIn wsX2_turnCamp wsX2_refuse := goodIn_r _ [15, 16, 17, 18, 19, 23, 24, 25, 26, 27, 28, 29, 30, 31, 32, 33, 34, 35, 36] (by decide +kernel) (by decide +kernel)
set_option maxRecDepth 20000 in
theorem gX2_turnCamp_X2_refuse : GoodIn wsX2_turnCamp (wsV RX2 243 RX2 yX2_refuse wsX2_refuse) := goodIn_app (goodIn_of _ (by decide +kernel)) ggX2_turnCamp_X2_refuse
set_option maxRecDepth 20000 in
theorem ggX2_turnCamp_X2_sumOf : GoodIn wsX2_turnCamp wsX2_sumOf := goodIn_r _ [22] (by decide +kernel) (by decide +kernel)
set_option maxRecDepth 20000 in
theorem gX2_turnCamp_X2_sumOf : GoodIn wsX2_turnCamp (va_wsS RX2 212 yX2_sumOf wsX2_sumOf) := goodIn_app (goodIn_of _ (by decide +kernel)) ggX2_turnCamp_X2_sumOf
theorem dX2_turnCamp_0 : decode cX2_turnCamp 0 = .ok (.iload_n 1, 1) := by decide +kernel
theorem dX2_turnCamp_1 : decode cX2_turnCamp 1 = .ok (.invokestatic 94, 3) := by decide +kernel
theorem dX2_turnCamp_4 : decode cX2_turnCamp 4 = .ok (.ifCond .eq 5, 3) := by decide +kernel
theorem dX2_turnCamp_7 : decode cX2_turnCamp 7 = .ok (.iconst (-1), 1) := by decide +kernel
theorem dX2_turnCamp_8 : decode cX2_turnCamp 8 = .ok (.ireturn, 1) := by decide +kernel
theorem dX2_turnCamp_9 : decode cX2_turnCamp 9 = .ok (.iload_n 2, 1) := by decide +kernel
theorem dX2_turnCamp_10 : decode cX2_turnCamp 10 = .ok (.invokestatic 252, 3) := by decide +kernel
theorem dX2_turnCamp_13 : decode cX2_turnCamp 13 = .ok (.ifCond .eq 6, 3) := by decide +kernel
theorem dX2_turnCamp_16 : decode cX2_turnCamp 16 = .ok (.bipush (-2), 2) := by decide +kernel
theorem dX2_turnCamp_18 : decode cX2_turnCamp 18 = .ok (.ireturn, 1) := by decide +kernel
theorem dX2_turnCamp_19 : decode cX2_turnCamp 19 = .ok (.aload_n 0, 1) := by decide +kernel
theorem dX2_turnCamp_20 : decode cX2_turnCamp 20 = .ok (.getfield 10, 3) := by decide +kernel
theorem dX2_turnCamp_23 : decode cX2_turnCamp 23 = .ok (.getfield 108, 3) := by decide +kernel
theorem dX2_turnCamp_26 : decode cX2_turnCamp 26 = .ok (.iload_n 1, 1) := by decide +kernel
theorem dX2_turnCamp_27 : decode cX2_turnCamp 27 = .ok (.iaload, 1) := by decide +kernel
theorem dX2_turnCamp_28 : decode cX2_turnCamp 28 = .ok (.iload_n 2, 1) := by decide +kernel
theorem dX2_turnCamp_29 : decode cX2_turnCamp 29 = .ok (.if_icmp .ne 10, 3) := by decide +kernel
theorem dX2_turnCamp_32 : decode cX2_turnCamp 32 = .ok (.aload_n 0, 1) := by decide +kernel
theorem dX2_turnCamp_33 : decode cX2_turnCamp 33 = .ok (.iconst 5, 1) := by decide +kernel
theorem dX2_turnCamp_34 : decode cX2_turnCamp 34 = .ok (.iload_n 2, 1) := by decide +kernel
theorem dX2_turnCamp_35 : decode cX2_turnCamp 35 = .ok (.invokevirtual 243, 3) := by decide +kernel
theorem dX2_turnCamp_38 : decode cX2_turnCamp 38 = .ok (.ireturn, 1) := by decide +kernel
theorem dX2_turnCamp_39 : decode cX2_turnCamp 39 = .ok (.aload_n 0, 1) := by decide +kernel
theorem dX2_turnCamp_40 : decode cX2_turnCamp 40 = .ok (.getfield 10, 3) := by decide +kernel
theorem dX2_turnCamp_43 : decode cX2_turnCamp 43 = .ok (.getfield 108, 3) := by decide +kernel
theorem dX2_turnCamp_46 : decode cX2_turnCamp 46 = .ok (.iload_n 1, 1) := by decide +kernel
theorem dX2_turnCamp_47 : decode cX2_turnCamp 47 = .ok (.iload_n 2, 1) := by decide +kernel
theorem dX2_turnCamp_48 : decode cX2_turnCamp 48 = .ok (.iastore, 1) := by decide +kernel
theorem dX2_turnCamp_49 : decode cX2_turnCamp 49 = .ok (.aload_n 0, 1) := by decide +kernel
theorem dX2_turnCamp_50 : decode cX2_turnCamp 50 = .ok (.getfield 10, 3) := by decide +kernel
theorem dX2_turnCamp_53 : decode cX2_turnCamp 53 = .ok (.getfield 105, 3) := by decide +kernel
theorem dX2_turnCamp_56 : decode cX2_turnCamp 56 = .ok (.iload_n 1, 1) := by decide +kernel
theorem dX2_turnCamp_57 : decode cX2_turnCamp 57 = .ok (.iconst 0, 1) := by decide +kernel
theorem dX2_turnCamp_58 : decode cX2_turnCamp 58 = .ok (.iastore, 1) := by decide +kernel
theorem dX2_turnCamp_59 : decode cX2_turnCamp 59 = .ok (.aload_n 0, 1) := by decide +kernel
theorem dX2_turnCamp_60 : decode cX2_turnCamp 60 = .ok (.getfield 10, 3) := by decide +kernel
theorem dX2_turnCamp_63 : decode cX2_turnCamp 63 = .ok (.getfield 117, 3) := by decide +kernel
theorem dX2_turnCamp_66 : decode cX2_turnCamp 66 = .ok (.iload_n 1, 1) := by decide +kernel
theorem dX2_turnCamp_67 : decode cX2_turnCamp 67 = .ok (.iconst 0, 1) := by decide +kernel
theorem dX2_turnCamp_68 : decode cX2_turnCamp 68 = .ok (.iastore, 1) := by decide +kernel
theorem dX2_turnCamp_69 : decode cX2_turnCamp 69 = .ok (.aload_n 0, 1) := by decide +kernel
theorem dX2_turnCamp_70 : decode cX2_turnCamp 70 = .ok (.getfield 10, 3) := by decide +kernel
theorem dX2_turnCamp_73 : decode cX2_turnCamp 73 = .ok (.getfield 108, 3) := by decide +kernel
theorem dX2_turnCamp_76 : decode cX2_turnCamp 76 = .ok (.invokestatic 212, 3) := by decide +kernel
theorem dX2_turnCamp_79 : decode cX2_turnCamp 79 = .ok (.ireturn, 1) := by decide +kernel
set_option maxRecDepth 20000 in
theorem ggX2_passHours_X0_letHourGoBy : GoodIn wsX2_passHours wsX0_letHourGoBy := goodIn_r _ [7, 8, 9, 10, 11, 12, 13, 6, 14, 15, 16, 17, 18, 19, 20, 21, 22, 23, 24, 25, 26, 27, 28, 29, 30, 31, 32, 33, 34, 35, 36, 37, 38, 39, 40, 41, 42, 43, 44, 45, 46, 47, 48, 49, 50, 51, 52, 53, 54, 55, 56, 57, 58, 59, 60, 61, 62, 63, 64, 65, 66, 81, 82, 83, 84, 85, 86, 87, 88, 89, 90, 91, 92, 93, 94, 95, 96] (by decide +kernel) (by decide +kernel)
set_option maxRecDepth 20000 in
theorem gX2_passHours_X0_letHourGoBy : GoodIn wsX2_passHours (wsV RX2 162 RX0 yX0_letHourGoBy wsX0_letHourGoBy) := goodIn_app (goodIn_of _ (by decide +kernel)) ggX2_passHours_X0_letHourGoBy
theorem dX2_passHours_0 : decode cX2_passHours 0 = .ok (.iload_n 1, 1) := by decide +kernel
theorem dX2_passHours_1 : decode cX2_passHours 1 = .ok (.iconst 1, 1) := by decide +kernel
theorem dX2_passHours_2 : decode cX2_passHours 2 = .ok (.if_icmp .lt 9, 3) := by decide +kernel
theorem dX2_passHours_5 : decode cX2_passHours 5 = .ok (.iload_n 1, 1) := by decide +kernel
theorem dX2_passHours_6 : decode cX2_passHours 6 = .ok (.bipush 30, 2) := by decide +kernel
theorem dX2_passHours_8 : decode cX2_passHours 8 = .ok (.if_icmp .le 6, 3) := by decide +kernel
theorem dX2_passHours_11 : decode cX2_passHours 11 = .ok (.bipush (-2), 2) := by decide +kernel
theorem dX2_passHours_13 : decode cX2_passHours 13 = .ok (.ireturn, 1) := by decide +kernel
theorem dX2_passHours_14 : decode cX2_passHours 14 = .ok (.aload_n 0, 1) := by decide +kernel
theorem dX2_passHours_15 : decode cX2_passHours 15 = .ok (.getfield 10, 3) := by decide +kernel
theorem dX2_passHours_18 : decode cX2_passHours 18 = .ok (.getfield 221, 3) := by decide +kernel
theorem dX2_passHours_21 : decode cX2_passHours 21 = .ok (.istore_n 2, 1) := by decide +kernel
theorem dX2_passHours_22 : decode cX2_passHours 22 = .ok (.iconst 0, 1) := by decide +kernel
theorem dX2_passHours_23 : decode cX2_passHours 23 = .ok (.istore_n 3, 1) := by decide +kernel
theorem dX2_passHours_24 : decode cX2_passHours 24 = .ok (.iload_n 3, 1) := by decide +kernel
theorem dX2_passHours_25 : decode cX2_passHours 25 = .ok (.iload_n 1, 1) := by decide +kernel
theorem dX2_passHours_26 : decode cX2_passHours 26 = .ok (.if_icmp .ge 16, 3) := by decide +kernel
theorem dX2_passHours_29 : decode cX2_passHours 29 = .ok (.aload_n 0, 1) := by decide +kernel
theorem dX2_passHours_30 : decode cX2_passHours 30 = .ok (.getfield 10, 3) := by decide +kernel
theorem dX2_passHours_33 : decode cX2_passHours 33 = .ok (.invokevirtual 162, 3) := by decide +kernel
theorem dX2_passHours_36 : decode cX2_passHours 36 = .ok (.iinc 3 1, 3) := by decide +kernel
theorem dX2_passHours_39 : decode cX2_passHours 39 = .ok (.goto (-15), 3) := by decide +kernel
theorem dX2_passHours_42 : decode cX2_passHours 42 = .ok (.aload_n 0, 1) := by decide +kernel
theorem dX2_passHours_43 : decode cX2_passHours 43 = .ok (.getfield 10, 3) := by decide +kernel
theorem dX2_passHours_46 : decode cX2_passHours 46 = .ok (.getfield 221, 3) := by decide +kernel
theorem dX2_passHours_49 : decode cX2_passHours 49 = .ok (.iload_n 2, 1) := by decide +kernel
theorem dX2_passHours_50 : decode cX2_passHours 50 = .ok (.isub, 1) := by decide +kernel
theorem dX2_passHours_51 : decode cX2_passHours 51 = .ok (.ireturn, 1) := by decide +kernel
set_option maxRecDepth 20000 in
theorem ggX2_carryOutCommand_X2_bringDusk : GoodIn wsX2_carryOutCommand wsX2_bringDusk := goodIn_r _ [10, 11, 12, 13, 14, 15, 16, 9, 17, 18, 19, 20, 21, 22, 23, 24, 25, 26, 27, 28, 29, 30, 31, 32, 33, 34, 35, 36, 37, 38, 39, 40, 41, 42, 43, 44, 45, 46, 47, 48, 49, 50, 51, 52, 53, 54, 55, 56, 135, 136, 137, 138, 139, 140, 141, 142, 143, 144, 145, 146, 147, 148, 155, 156, 157, 158, 159, 160, 161, 162, 163, 164, 165, 166, 167, 168, 169, 170] (by decide +kernel) (by decide +kernel)
set_option maxRecDepth 20000 in
theorem gX2_carryOutCommand_X2_bringDusk : GoodIn wsX2_carryOutCommand (wsV RX2 70 RX2 yX2_bringDusk wsX2_bringDusk) := goodIn_app (goodIn_of _ (by decide +kernel)) ggX2_carryOutCommand_X2_bringDusk
set_option maxRecDepth 20000 in
theorem ggX2_carryOutCommand_X2_writePage : GoodIn wsX2_carryOutCommand wsX2_writePage := goodIn_r _ [60, 11, 12, 13, 14, 61, 15, 16, 9, 17, 62, 63, 64, 18, 19, 20, 21, 22, 23, 24, 25, 65, 66, 67, 29, 68, 51, 56, 32, 69, 70, 135, 136, 137, 138, 139, 140, 141, 142, 143, 144, 145, 146, 147, 148, 155, 156, 157, 158, 159, 160, 161, 162, 163, 164, 165, 166, 167, 168, 169, 170] (by decide +kernel) (by decide +kernel)
set_option maxRecDepth 20000 in
theorem gX2_carryOutCommand_X2_writePage : GoodIn wsX2_carryOutCommand (wsV RX2 77 RX2 yX2_writePage wsX2_writePage) := goodIn_app (goodIn_of _ (by decide +kernel)) ggX2_carryOutCommand_X2_writePage
set_option maxRecDepth 20000 in
theorem ggX2_carryOutCommand_X2_sendCaptain : GoodIn wsX2_carryOutCommand wsX2_sendCaptain := goodIn_r _ [74, 11, 12, 13, 14, 75, 15, 16, 9, 17, 18, 19, 20, 21, 22, 23, 24, 25, 76, 77, 78, 29, 79, 80, 32, 37, 38, 39, 40, 41, 42, 43, 44, 45, 46, 33, 35, 81, 82, 83, 84, 34, 51, 85, 56, 69, 86, 87, 88, 89, 90, 91, 92, 93, 94, 95, 96, 97, 98, 52, 53, 54, 55, 135, 136, 137, 138, 139, 140, 141, 142, 143, 144, 145, 146, 147, 148, 155, 156, 157, 158, 159, 160, 161, 162, 163, 164, 165, 166, 167, 168, 169, 170] (by decide +kernel) (by decide +kernel)
set_option maxRecDepth 20000 in
theorem gX2_carryOutCommand_X2_sendCaptain : GoodIn wsX2_carryOutCommand (wsV RX2 81 RX2 yX2_sendCaptain wsX2_sendCaptain) := goodIn_app (goodIn_of _ (by decide +kernel)) ggX2_carryOutCommand_X2_sendCaptain
set_option maxRecDepth 20000 in
theorem ggX2_carryOutCommand_X2_turnRoad : GoodIn wsX2_carryOutCommand wsX2_turnRoad := goodIn_r _ [102, 11, 103, 15, 16, 9, 17, 104, 105, 106, 18, 19, 20, 21, 22, 23, 24, 25, 107, 108, 109, 29, 110, 42, 111, 112, 135, 136, 137, 138, 139, 140, 141, 142, 143, 144, 145, 146, 147, 148, 155, 156, 157, 158, 159, 160, 161, 162, 163, 164, 165, 166, 167, 168, 169, 170] (by decide +kernel) (by decide +kernel)
set_option maxRecDepth 20000 in
theorem gX2_carryOutCommand_X2_turnRoad : GoodIn wsX2_carryOutCommand (wsV RX2 84 RX2 yX2_turnRoad wsX2_turnRoad) := goodIn_app (goodIn_of _ (by decide +kernel)) ggX2_carryOutCommand_X2_turnRoad
set_option maxRecDepth 20000 in
theorem ggX2_carryOutCommand_X2_turnCamp : GoodIn wsX2_carryOutCommand wsX2_turnCamp := goodIn_r _ [116, 11, 12, 13, 117, 15, 16, 9, 17, 104, 105, 106, 18, 19, 20, 21, 22, 23, 24, 25, 118, 111, 112, 135, 136, 137, 138, 139, 140, 141, 142, 143, 144, 145, 146, 147, 148, 155, 156, 157, 158, 159, 160, 161, 162, 163, 164, 165, 166, 167, 168, 169, 170] (by decide +kernel) (by decide +kernel)
set_option maxRecDepth 20000 in
theorem gX2_carryOutCommand_X2_turnCamp : GoodIn wsX2_carryOutCommand (wsV RX2 88 RX2 yX2_turnCamp wsX2_turnCamp) := goodIn_app (goodIn_of _ (by decide +kernel)) ggX2_carryOutCommand_X2_turnCamp
set_option maxRecDepth 20000 in
theorem ggX2_carryOutCommand_X2_passHours : GoodIn wsX2_carryOutCommand wsX2_passHours := goodIn_r _ [122, 11, 123, 124, 125, 126, 29, 127, 128, 35, 34, 129, 77, 78, 79, 80, 32, 37, 38, 39, 40, 41, 42, 43, 44, 45, 46, 33, 81, 82, 83, 84, 51, 85, 56, 69, 86, 87, 88, 89, 90, 91, 92, 93, 94, 95, 96, 97, 98, 52, 53, 54, 55, 130, 131, 132, 133, 134, 27, 28, 30, 31, 36, 47, 48, 49, 50, 135, 136, 137, 138, 139, 140, 141, 142, 143, 144, 145, 146, 147, 148, 155, 156, 157, 158, 159, 160, 161, 162, 163, 164, 165, 166, 167, 168, 169, 170] (by decide +kernel) (by decide +kernel)
set_option maxRecDepth 20000 in
theorem gX2_carryOutCommand_X2_passHours : GoodIn wsX2_carryOutCommand (wsV RX2 91 RX2 yX2_passHours wsX2_passHours) := goodIn_app (goodIn_of _ (by decide +kernel)) ggX2_carryOutCommand_X2_passHours
theorem dX2_carryOutCommand_0 : decode cX2_carryOutCommand 0 = .ok (.aload_n 0, 1) := by decide +kernel
theorem dX2_carryOutCommand_1 : decode cX2_carryOutCommand 1 = .ok (.getfield 43, 3) := by decide +kernel
theorem dX2_carryOutCommand_4 : decode cX2_carryOutCommand 4 = .ok (.getfield 258, 3) := by decide +kernel
theorem dX2_carryOutCommand_7 : decode cX2_carryOutCommand 7 = .ok (.lookupswitch 152 #[(100, 57), (107, 139), (109, 88), (114, 100), (119, 69), (122, 126)], 57) := by decide +kernel
theorem dX2_carryOutCommand_64 : decode cX2_carryOutCommand 64 = .ok (.aload_n 0, 1) := by decide +kernel
theorem dX2_carryOutCommand_65 : decode cX2_carryOutCommand 65 = .ok (.aload_n 0, 1) := by decide +kernel
theorem dX2_carryOutCommand_66 : decode cX2_carryOutCommand 66 = .ok (.getfield 43, 3) := by decide +kernel
theorem dX2_carryOutCommand_69 : decode cX2_carryOutCommand 69 = .ok (.getfield 261, 3) := by decide +kernel
theorem dX2_carryOutCommand_72 : decode cX2_carryOutCommand 72 = .ok (.invokevirtual 70, 3) := by decide +kernel
theorem dX2_carryOutCommand_75 : decode cX2_carryOutCommand 75 = .ok (.ireturn, 1) := by decide +kernel
theorem dX2_carryOutCommand_76 : decode cX2_carryOutCommand 76 = .ok (.aload_n 0, 1) := by decide +kernel
theorem dX2_carryOutCommand_77 : decode cX2_carryOutCommand 77 = .ok (.aload_n 0, 1) := by decide +kernel
theorem dX2_carryOutCommand_78 : decode cX2_carryOutCommand 78 = .ok (.getfield 43, 3) := by decide +kernel
theorem dX2_carryOutCommand_81 : decode cX2_carryOutCommand 81 = .ok (.getfield 261, 3) := by decide +kernel
theorem dX2_carryOutCommand_84 : decode cX2_carryOutCommand 84 = .ok (.aload_n 0, 1) := by decide +kernel
theorem dX2_carryOutCommand_85 : decode cX2_carryOutCommand 85 = .ok (.getfield 43, 3) := by decide +kernel
theorem dX2_carryOutCommand_88 : decode cX2_carryOutCommand 88 = .ok (.getfield 264, 3) := by decide +kernel
theorem dX2_carryOutCommand_91 : decode cX2_carryOutCommand 91 = .ok (.invokevirtual 77, 3) := by decide +kernel
theorem dX2_carryOutCommand_94 : decode cX2_carryOutCommand 94 = .ok (.ireturn, 1) := by decide +kernel
theorem dX2_carryOutCommand_95 : decode cX2_carryOutCommand 95 = .ok (.aload_n 0, 1) := by decide +kernel
theorem dX2_carryOutCommand_96 : decode cX2_carryOutCommand 96 = .ok (.aload_n 0, 1) := by decide +kernel
theorem dX2_carryOutCommand_97 : decode cX2_carryOutCommand 97 = .ok (.getfield 43, 3) := by decide +kernel
theorem dX2_carryOutCommand_100 : decode cX2_carryOutCommand 100 = .ok (.getfield 261, 3) := by decide +kernel
theorem dX2_carryOutCommand_103 : decode cX2_carryOutCommand 103 = .ok (.invokevirtual 81, 3) := by decide +kernel
theorem dX2_carryOutCommand_106 : decode cX2_carryOutCommand 106 = .ok (.ireturn, 1) := by decide +kernel
theorem dX2_carryOutCommand_107 : decode cX2_carryOutCommand 107 = .ok (.aload_n 0, 1) := by decide +kernel
theorem dX2_carryOutCommand_108 : decode cX2_carryOutCommand 108 = .ok (.aload_n 0, 1) := by decide +kernel
theorem dX2_carryOutCommand_109 : decode cX2_carryOutCommand 109 = .ok (.getfield 43, 3) := by decide +kernel
theorem dX2_carryOutCommand_112 : decode cX2_carryOutCommand 112 = .ok (.getfield 261, 3) := by decide +kernel
theorem dX2_carryOutCommand_115 : decode cX2_carryOutCommand 115 = .ok (.aload_n 0, 1) := by decide +kernel
theorem dX2_carryOutCommand_116 : decode cX2_carryOutCommand 116 = .ok (.getfield 43, 3) := by decide +kernel
theorem dX2_carryOutCommand_119 : decode cX2_carryOutCommand 119 = .ok (.getfield 264, 3) := by decide +kernel
theorem dX2_carryOutCommand_122 : decode cX2_carryOutCommand 122 = .ok (.aload_n 0, 1) := by decide +kernel
theorem dX2_carryOutCommand_123 : decode cX2_carryOutCommand 123 = .ok (.getfield 43, 3) := by decide +kernel
theorem dX2_carryOutCommand_126 : decode cX2_carryOutCommand 126 = .ok (.getfield 267, 3) := by decide +kernel
theorem dX2_carryOutCommand_129 : decode cX2_carryOutCommand 129 = .ok (.invokevirtual 84, 3) := by decide +kernel
theorem dX2_carryOutCommand_132 : decode cX2_carryOutCommand 132 = .ok (.ireturn, 1) := by decide +kernel
theorem dX2_carryOutCommand_133 : decode cX2_carryOutCommand 133 = .ok (.aload_n 0, 1) := by decide +kernel
theorem dX2_carryOutCommand_134 : decode cX2_carryOutCommand 134 = .ok (.aload_n 0, 1) := by decide +kernel
theorem dX2_carryOutCommand_135 : decode cX2_carryOutCommand 135 = .ok (.getfield 43, 3) := by decide +kernel
theorem dX2_carryOutCommand_138 : decode cX2_carryOutCommand 138 = .ok (.getfield 261, 3) := by decide +kernel
theorem dX2_carryOutCommand_141 : decode cX2_carryOutCommand 141 = .ok (.iconst 0, 1) := by decide +kernel
theorem dX2_carryOutCommand_142 : decode cX2_carryOutCommand 142 = .ok (.invokevirtual 88, 3) := by decide +kernel
theorem dX2_carryOutCommand_145 : decode cX2_carryOutCommand 145 = .ok (.ireturn, 1) := by decide +kernel
theorem dX2_carryOutCommand_146 : decode cX2_carryOutCommand 146 = .ok (.aload_n 0, 1) := by decide +kernel
theorem dX2_carryOutCommand_147 : decode cX2_carryOutCommand 147 = .ok (.aload_n 0, 1) := by decide +kernel
theorem dX2_carryOutCommand_148 : decode cX2_carryOutCommand 148 = .ok (.getfield 43, 3) := by decide +kernel
theorem dX2_carryOutCommand_151 : decode cX2_carryOutCommand 151 = .ok (.getfield 261, 3) := by decide +kernel
theorem dX2_carryOutCommand_154 : decode cX2_carryOutCommand 154 = .ok (.iconst 1, 1) := by decide +kernel
theorem dX2_carryOutCommand_155 : decode cX2_carryOutCommand 155 = .ok (.invokevirtual 88, 3) := by decide +kernel
theorem dX2_carryOutCommand_158 : decode cX2_carryOutCommand 158 = .ok (.ireturn, 1) := by decide +kernel
theorem dX2_carryOutCommand_159 : decode cX2_carryOutCommand 159 = .ok (.aload_n 0, 1) := by decide +kernel
theorem dX2_carryOutCommand_160 : decode cX2_carryOutCommand 160 = .ok (.aload_n 0, 1) := by decide +kernel
theorem dX2_carryOutCommand_161 : decode cX2_carryOutCommand 161 = .ok (.getfield 43, 3) := by decide +kernel
theorem dX2_carryOutCommand_164 : decode cX2_carryOutCommand 164 = .ok (.getfield 261, 3) := by decide +kernel
theorem dX2_carryOutCommand_167 : decode cX2_carryOutCommand 167 = .ok (.invokevirtual 91, 3) := by decide +kernel
theorem dX2_carryOutCommand_170 : decode cX2_carryOutCommand 170 = .ok (.ireturn, 1) := by decide +kernel
theorem dX2_refuse_0 : decode cX2_refuse 0 = .ok (.aload_n 0, 1) := by decide +kernel
theorem dX2_refuse_1 : decode cX2_refuse 1 = .ok (.iload_n 1, 1) := by decide +kernel
theorem dX2_refuse_2 : decode cX2_refuse 2 = .ok (.putfield 57, 3) := by decide +kernel
theorem dX2_refuse_5 : decode cX2_refuse 5 = .ok (.aload_n 0, 1) := by decide +kernel
theorem dX2_refuse_6 : decode cX2_refuse 6 = .ok (.iload_n 2, 1) := by decide +kernel
theorem dX2_refuse_7 : decode cX2_refuse 7 = .ok (.putfield 60, 3) := by decide +kernel
theorem dX2_refuse_10 : decode cX2_refuse 10 = .ok (.aload_n 0, 1) := by decide +kernel
theorem dX2_refuse_11 : decode cX2_refuse 11 = .ok (.aload_n 0, 1) := by decide +kernel
theorem dX2_refuse_12 : decode cX2_refuse 12 = .ok (.getfield 54, 3) := by decide +kernel
theorem dX2_refuse_15 : decode cX2_refuse 15 = .ok (.putfield 63, 3) := by decide +kernel
theorem dX2_refuse_18 : decode cX2_refuse 18 = .ok (.bipush (-3), 2) := by decide +kernel
theorem dX2_refuse_20 : decode cX2_refuse 20 = .ok (.ireturn, 1) := by decide +kernel
set_option maxRecDepth 20000 in
theorem ggX2_finishChange_X0_copyFrom : GoodIn wsX2_finishChange wsX0_copyFrom := goodIn_r _ [13, 14, 15, 16, 17, 18, 19, 20, 21, 22, 23, 24, 25, 26, 27, 28, 29, 30, 31, 32, 33, 48, 49, 50, 51, 52, 53, 54, 55, 56, 57, 58, 59, 60, 61, 62, 63] (by decide +kernel) (by decide +kernel)
set_option maxRecDepth 20000 in
theorem gX2_finishChange_X0_copyFrom : GoodIn wsX2_finishChange (wsV RX2 66 RX0 yX0_copyFrom wsX0_copyFrom) := goodIn_app (goodIn_of _ (by decide +kernel)) ggX2_finishChange_X0_copyFrom
theorem dX2_finishChange_0 : decode cX2_finishChange 0 = .ok (.iload_n 1, 1) := by decide +kernel
theorem dX2_finishChange_1 : decode cX2_finishChange 1 = .ok (.ifCond .ge 5, 3) := by decide +kernel
theorem dX2_finishChange_4 : decode cX2_finishChange 4 = .ok (.iload_n 1, 1) := by decide +kernel
theorem dX2_finishChange_5 : decode cX2_finishChange 5 = .ok (.ireturn, 1) := by decide +kernel
theorem dX2_finishChange_6 : decode cX2_finishChange 6 = .ok (.aload_n 0, 1) := by decide +kernel
theorem dX2_finishChange_7 : decode cX2_finishChange 7 = .ok (.aload_n 0, 1) := by decide +kernel
theorem dX2_finishChange_8 : decode cX2_finishChange 8 = .ok (.getfield 33, 3) := by decide +kernel
theorem dX2_finishChange_11 : decode cX2_finishChange 11 = .ok (.iconst 1, 1) := by decide +kernel
theorem dX2_finishChange_12 : decode cX2_finishChange 12 = .ok (.iadd, 1) := by decide +kernel
theorem dX2_finishChange_13 : decode cX2_finishChange 13 = .ok (.bipush 8, 2) := by decide +kernel
theorem dX2_finishChange_15 : decode cX2_finishChange 15 = .ok (.irem, 1) := by decide +kernel
theorem dX2_finishChange_16 : decode cX2_finishChange 16 = .ok (.putfield 33, 3) := by decide +kernel
theorem dX2_finishChange_19 : decode cX2_finishChange 19 = .ok (.aload_n 0, 1) := by decide +kernel
theorem dX2_finishChange_20 : decode cX2_finishChange 20 = .ok (.getfield 29, 3) := by decide +kernel
theorem dX2_finishChange_23 : decode cX2_finishChange 23 = .ok (.aload_n 0, 1) := by decide +kernel
theorem dX2_finishChange_24 : decode cX2_finishChange 24 = .ok (.getfield 33, 3) := by decide +kernel
theorem dX2_finishChange_27 : decode cX2_finishChange 27 = .ok (.aaload, 1) := by decide +kernel
theorem dX2_finishChange_28 : decode cX2_finishChange 28 = .ok (.astore_n 2, 1) := by decide +kernel
theorem dX2_finishChange_29 : decode cX2_finishChange 29 = .ok (.aload_n 2, 1) := by decide +kernel
theorem dX2_finishChange_30 : decode cX2_finishChange 30 = .ok (.ifnull 11, 3) := by decide +kernel
theorem dX2_finishChange_33 : decode cX2_finishChange 33 = .ok (.aload_n 2, 1) := by decide +kernel
theorem dX2_finishChange_34 : decode cX2_finishChange 34 = .ok (.aload_n 0, 1) := by decide +kernel
theorem dX2_finishChange_35 : decode cX2_finishChange 35 = .ok (.getfield 16, 3) := by decide +kernel
theorem dX2_finishChange_38 : decode cX2_finishChange 38 = .ok (.invokevirtual 66, 3) := by decide +kernel
theorem dX2_finishChange_41 : decode cX2_finishChange 41 = .ok (.aload_n 0, 1) := by decide +kernel
theorem dX2_finishChange_42 : decode cX2_finishChange 42 = .ok (.aload_n 0, 1) := by decide +kernel
theorem dX2_finishChange_43 : decode cX2_finishChange 43 = .ok (.getfield 37, 3) := by decide +kernel
theorem dX2_finishChange_46 : decode cX2_finishChange 46 = .ok (.iconst 1, 1) := by decide +kernel
theorem dX2_finishChange_47 : decode cX2_finishChange 47 = .ok (.iadd, 1) := by decide +kernel
theorem dX2_finishChange_48 : decode cX2_finishChange 48 = .ok (.bipush 8, 2) := by decide +kernel
theorem dX2_finishChange_50 : decode cX2_finishChange 50 = .ok (.invokestatic 270, 3) := by decide +kernel
theorem dX2_finishChange_53 : decode cX2_finishChange 53 = .ok (.putfield 37, 3) := by decide +kernel
theorem dX2_finishChange_56 : decode cX2_finishChange 56 = .ok (.iload_n 1, 1) := by decide +kernel
theorem dX2_finishChange_57 : decode cX2_finishChange 57 = .ok (.ireturn, 1) := by decide +kernel
theorem dX2_isNoCamp_0 : decode cX2_isNoCamp 0 = .ok (.iload_n 0, 1) := by decide +kernel
theorem dX2_isNoCamp_1 : decode cX2_isNoCamp 1 = .ok (.ifCond .lt 8, 3) := by decide +kernel
theorem dX2_isNoCamp_4 : decode cX2_isNoCamp 4 = .ok (.iload_n 0, 1) := by decide +kernel
theorem dX2_isNoCamp_5 : decode cX2_isNoCamp 5 = .ok (.iconst 5, 1) := by decide +kernel
theorem dX2_isNoCamp_6 : decode cX2_isNoCamp 6 = .ok (.if_icmp .lt 7, 3) := by decide +kernel
theorem dX2_isNoCamp_9 : decode cX2_isNoCamp 9 = .ok (.iconst 1, 1) := by decide +kernel
theorem dX2_isNoCamp_10 : decode cX2_isNoCamp 10 = .ok (.goto 4, 3) := by decide +kernel
theorem dX2_isNoCamp_13 : decode cX2_isNoCamp 13 = .ok (.iconst 0, 1) := by decide +kernel
theorem dX2_isNoCamp_14 : decode cX2_isNoCamp 14 = .ok (.ireturn, 1) := by decide +kernel
theorem dX2_isNoLetter_0 : decode cX2_isNoLetter 0 = .ok (.iload_n 0, 1) := by decide +kernel
theorem dX2_isNoLetter_1 : decode cX2_isNoLetter 1 = .ok (.ifCond .lt 8, 3) := by decide +kernel
theorem dX2_isNoLetter_4 : decode cX2_isNoLetter 4 = .ok (.iload_n 0, 1) := by decide +kernel
theorem dX2_isNoLetter_5 : decode cX2_isNoLetter 5 = .ok (.iconst 4, 1) := by decide +kernel
theorem dX2_isNoLetter_6 : decode cX2_isNoLetter 6 = .ok (.if_icmp .lt 7, 3) := by decide +kernel
theorem dX2_isNoLetter_9 : decode cX2_isNoLetter 9 = .ok (.iconst 1, 1) := by decide +kernel
theorem dX2_isNoLetter_10 : decode cX2_isNoLetter 10 = .ok (.goto 4, 3) := by decide +kernel
theorem dX2_isNoLetter_13 : decode cX2_isNoLetter 13 = .ok (.iconst 0, 1) := by decide +kernel
theorem dX2_isNoLetter_14 : decode cX2_isNoLetter 14 = .ok (.ireturn, 1) := by decide +kernel
theorem dX2_isNoSwitch_0 : decode cX2_isNoSwitch 0 = .ok (.iload_n 0, 1) := by decide +kernel
theorem dX2_isNoSwitch_1 : decode cX2_isNoSwitch 1 = .ok (.ifCond .eq 12, 3) := by decide +kernel
theorem dX2_isNoSwitch_4 : decode cX2_isNoSwitch 4 = .ok (.iload_n 0, 1) := by decide +kernel
theorem dX2_isNoSwitch_5 : decode cX2_isNoSwitch 5 = .ok (.iconst 1, 1) := by decide +kernel
theorem dX2_isNoSwitch_6 : decode cX2_isNoSwitch 6 = .ok (.if_icmp .eq 7, 3) := by decide +kernel
theorem dX2_isNoSwitch_9 : decode cX2_isNoSwitch 9 = .ok (.iconst 1, 1) := by decide +kernel
theorem dX2_isNoSwitch_10 : decode cX2_isNoSwitch 10 = .ok (.goto 4, 3) := by decide +kernel
theorem dX2_isNoSwitch_13 : decode cX2_isNoSwitch 13 = .ok (.iconst 0, 1) := by decide +kernel
theorem dX2_isNoSwitch_14 : decode cX2_isNoSwitch 14 = .ok (.ireturn, 1) := by decide +kernel
set_option maxRecDepth 20000 in
theorem ggX2_isNoPage_X2_isNoCamp : GoodIn wsX2_isNoPage wsX2_isNoCamp := goodIn_r _ [6] (by decide +kernel) (by decide +kernel)
set_option maxRecDepth 20000 in
theorem gX2_isNoPage_X2_isNoCamp : GoodIn wsX2_isNoPage (va_wsS RX2 94 yX2_isNoCamp wsX2_isNoCamp) := goodIn_app (goodIn_of _ (by decide +kernel)) ggX2_isNoPage_X2_isNoCamp
theorem dX2_isNoPage_0 : decode cX2_isNoPage 0 = .ok (.iload_n 1, 1) := by decide +kernel
theorem dX2_isNoPage_1 : decode cX2_isNoPage 1 = .ok (.invokestatic 94, 3) := by decide +kernel
theorem dX2_isNoPage_4 : decode cX2_isNoPage 4 = .ok (.ifCond .ne 20, 3) := by decide +kernel
theorem dX2_isNoPage_7 : decode cX2_isNoPage 7 = .ok (.iload_n 2, 1) := by decide +kernel
theorem dX2_isNoPage_8 : decode cX2_isNoPage 8 = .ok (.ifCond .lt 16, 3) := by decide +kernel
theorem dX2_isNoPage_11 : decode cX2_isNoPage 11 = .ok (.iload_n 2, 1) := by decide +kernel
theorem dX2_isNoPage_12 : decode cX2_isNoPage 12 = .ok (.aload_n 0, 1) := by decide +kernel
theorem dX2_isNoPage_13 : decode cX2_isNoPage 13 = .ok (.getfield 10, 3) := by decide +kernel
theorem dX2_isNoPage_16 : decode cX2_isNoPage 16 = .ok (.getfield 111, 3) := by decide +kernel
theorem dX2_isNoPage_19 : decode cX2_isNoPage 19 = .ok (.iload_n 1, 1) := by decide +kernel
theorem dX2_isNoPage_20 : decode cX2_isNoPage 20 = .ok (.iaload, 1) := by decide +kernel
theorem dX2_isNoPage_21 : decode cX2_isNoPage 21 = .ok (.if_icmp .lt 7, 3) := by decide +kernel
theorem dX2_isNoPage_24 : decode cX2_isNoPage 24 = .ok (.iconst 1, 1) := by decide +kernel
theorem dX2_isNoPage_25 : decode cX2_isNoPage 25 = .ok (.goto 4, 3) := by decide +kernel
theorem dX2_isNoPage_28 : decode cX2_isNoPage 28 = .ok (.iconst 0, 1) := by decide +kernel
theorem dX2_isNoPage_29 : decode cX2_isNoPage 29 = .ok (.ireturn, 1) := by decide +kernel
set_option maxRecDepth 20000 in
theorem ggX2_appendPages_J4_append_cf468 : GoodIn wsX2_appendPages wsJ4_append_cf468 := goodIn_r _ [9, 10, 11, 12, 13, 14, 15, 16, 17, 18, 19, 20, 21, 22, 23, 24, 25, 26, 27, 28, 29, 30, 31, 32, 33, 34, 35, 36, 37, 38, 39, 40, 41, 42, 43, 44, 45, 46, 47, 48, 49, 50, 51, 52, 53, 54, 55, 56, 57, 58, 59, 60, 61, 62, 63, 64, 65, 66, 67, 68, 69, 70, 71, 72, 73, 74, 75, 76, 77, 78, 79, 80, 81, 82, 83, 84, 85, 86, 87, 88, 89, 90, 91, 92, 93, 94, 95, 96, 97, 98, 99, 100, 101, 102, 103, 104, 105, 106, 107, 108, 109, 110, 111, 112, 113, 114, 115, 116, 117, 118, 119, 120, 121, 186, 187, 188, 189] (by decide +kernel) (by decide +kernel)
set_option maxRecDepth 20000 in
theorem gX2_appendPages_J4_append_cf468 : GoodIn wsX2_appendPages (wsV RX2 176 RJ4 yJ4_append_cf468 wsJ4_append_cf468) := goodIn_app (goodIn_of _ (by decide +kernel)) ggX2_appendPages_J4_append_cf468
set_option maxRecDepth 20000 in
theorem ggX2_appendPages_J4_append_bf812 : GoodIn wsX2_appendPages wsJ4_append_bf812 := goodIn_r _ [125, 126, 127, 12, 128, 14, 129, 16, 17, 130, 131, 132, 133, 18, 19, 20, 21, 22, 23, 24, 25, 26, 27, 28, 29, 30, 31, 32, 33, 34, 35, 36, 37, 38, 39, 40, 41, 42, 43, 44, 45, 46, 47, 48, 49, 50, 51, 52, 53, 54, 55, 56, 57, 58, 59, 60, 61, 62, 63, 64, 65, 134, 135, 136, 137, 138, 139, 140, 77, 141, 107, 142, 143, 144, 92, 93, 94, 145, 146, 97, 147, 99, 148, 149, 102, 150, 151, 152, 153, 154, 155, 104, 105, 106, 108, 109, 186, 187, 188, 189] (by decide +kernel) (by decide +kernel)
set_option maxRecDepth 20000 in
theorem gX2_appendPages_J4_append_bf812 : GoodIn wsX2_appendPages (wsV RX2 172 RJ4 yJ4_append_bf812 wsJ4_append_bf812) := goodIn_app (goodIn_of _ (by decide +kernel)) ggX2_appendPages_J4_append_bf812
theorem dX2_appendPages_0 : decode cX2_appendPages 0 = .ok (.iload_n 1, 1) := by decide +kernel
theorem dX2_appendPages_1 : decode cX2_appendPages 1 = .ok (.bipush 12, 2) := by decide +kernel
theorem dX2_appendPages_3 : decode cX2_appendPages 3 = .ok (.imul, 1) := by decide +kernel
theorem dX2_appendPages_4 : decode cX2_appendPages 4 = .ok (.iload_n 2, 1) := by decide +kernel
theorem dX2_appendPages_5 : decode cX2_appendPages 5 = .ok (.iadd, 1) := by decide +kernel
theorem dX2_appendPages_6 : decode cX2_appendPages 6 = .ok (.istore 4, 2) := by decide +kernel
theorem dX2_appendPages_8 : decode cX2_appendPages 8 = .ok (.iload 4, 2) := by decide +kernel
theorem dX2_appendPages_10 : decode cX2_appendPages 10 = .ok (.iload_n 1, 1) := by decide +kernel
theorem dX2_appendPages_11 : decode cX2_appendPages 11 = .ok (.bipush 12, 2) := by decide +kernel
theorem dX2_appendPages_13 : decode cX2_appendPages 13 = .ok (.imul, 1) := by decide +kernel
theorem dX2_appendPages_14 : decode cX2_appendPages 14 = .ok (.iload_n 3, 1) := by decide +kernel
theorem dX2_appendPages_15 : decode cX2_appendPages 15 = .ok (.iadd, 1) := by decide +kernel
theorem dX2_appendPages_16 : decode cX2_appendPages 16 = .ok (.if_icmp .ge 44, 3) := by decide +kernel
theorem dX2_appendPages_19 : decode cX2_appendPages 19 = .ok (.aload_n 0, 1) := by decide +kernel
theorem dX2_appendPages_20 : decode cX2_appendPages 20 = .ok (.getfield 50, 3) := by decide +kernel
theorem dX2_appendPages_23 : decode cX2_appendPages 23 = .ok (.bipush 97, 2) := by decide +kernel
theorem dX2_appendPages_25 : decode cX2_appendPages 25 = .ok (.aload_n 0, 1) := by decide +kernel
theorem dX2_appendPages_26 : decode cX2_appendPages 26 = .ok (.getfield 10, 3) := by decide +kernel
theorem dX2_appendPages_29 : decode cX2_appendPages 29 = .ok (.getfield 130, 3) := by decide +kernel
theorem dX2_appendPages_32 : decode cX2_appendPages 32 = .ok (.iload 4, 2) := by decide +kernel
theorem dX2_appendPages_34 : decode cX2_appendPages 34 = .ok (.iaload, 1) := by decide +kernel
theorem dX2_appendPages_35 : decode cX2_appendPages 35 = .ok (.iadd, 1) := by decide +kernel
theorem dX2_appendPages_36 : decode cX2_appendPages 36 = .ok (.i2c, 1) := by decide +kernel
theorem dX2_appendPages_37 : decode cX2_appendPages 37 = .ok (.invokevirtual 176, 3) := by decide +kernel
theorem dX2_appendPages_40 : decode cX2_appendPages 40 = .ok (.aload_n 0, 1) := by decide +kernel
theorem dX2_appendPages_41 : decode cX2_appendPages 41 = .ok (.getfield 10, 3) := by decide +kernel
theorem dX2_appendPages_44 : decode cX2_appendPages 44 = .ok (.getfield 127, 3) := by decide +kernel
theorem dX2_appendPages_47 : decode cX2_appendPages 47 = .ok (.iload 4, 2) := by decide +kernel
theorem dX2_appendPages_49 : decode cX2_appendPages 49 = .ok (.iaload, 1) := by decide +kernel
theorem dX2_appendPages_50 : decode cX2_appendPages 50 = .ok (.invokevirtual 172, 3) := by decide +kernel
theorem dX2_appendPages_53 : decode cX2_appendPages 53 = .ok (.pop, 1) := by decide +kernel
theorem dX2_appendPages_54 : decode cX2_appendPages 54 = .ok (.iinc 4 1, 3) := by decide +kernel
theorem dX2_appendPages_57 : decode cX2_appendPages 57 = .ok (.goto (-49), 3) := by decide +kernel
theorem dX2_appendPages_60 : decode cX2_appendPages 60 = .ok (.return_, 1) := by decide +kernel
theorem dX2_sumOf_0 : decode cX2_sumOf 0 = .ok (.iconst 0, 1) := by decide +kernel
theorem dX2_sumOf_1 : decode cX2_sumOf 1 = .ok (.istore_n 1, 1) := by decide +kernel
theorem dX2_sumOf_2 : decode cX2_sumOf 2 = .ok (.aload_n 0, 1) := by decide +kernel
theorem dX2_sumOf_3 : decode cX2_sumOf 3 = .ok (.astore_n 2, 1) := by decide +kernel
theorem dX2_sumOf_4 : decode cX2_sumOf 4 = .ok (.aload_n 2, 1) := by decide +kernel
theorem dX2_sumOf_5 : decode cX2_sumOf 5 = .ok (.arraylength, 1) := by decide +kernel
theorem dX2_sumOf_6 : decode cX2_sumOf 6 = .ok (.istore_n 3, 1) := by decide +kernel
theorem dX2_sumOf_7 : decode cX2_sumOf 7 = .ok (.iconst 0, 1) := by decide +kernel
theorem dX2_sumOf_8 : decode cX2_sumOf 8 = .ok (.istore 4, 2) := by decide +kernel
theorem dX2_sumOf_10 : decode cX2_sumOf 10 = .ok (.iload 4, 2) := by decide +kernel
theorem dX2_sumOf_12 : decode cX2_sumOf 12 = .ok (.iload_n 3, 1) := by decide +kernel
theorem dX2_sumOf_13 : decode cX2_sumOf 13 = .ok (.if_icmp .ge 20, 3) := by decide +kernel
theorem dX2_sumOf_16 : decode cX2_sumOf 16 = .ok (.aload_n 2, 1) := by decide +kernel
theorem dX2_sumOf_17 : decode cX2_sumOf 17 = .ok (.iload 4, 2) := by decide +kernel
theorem dX2_sumOf_19 : decode cX2_sumOf 19 = .ok (.iaload, 1) := by decide +kernel
theorem dX2_sumOf_20 : decode cX2_sumOf 20 = .ok (.istore 5, 2) := by decide +kernel
theorem dX2_sumOf_22 : decode cX2_sumOf 22 = .ok (.iload_n 1, 1) := by decide +kernel
theorem dX2_sumOf_23 : decode cX2_sumOf 23 = .ok (.iload 5, 2) := by decide +kernel
theorem dX2_sumOf_25 : decode cX2_sumOf 25 = .ok (.iadd, 1) := by decide +kernel
theorem dX2_sumOf_26 : decode cX2_sumOf 26 = .ok (.istore_n 1, 1) := by decide +kernel
theorem dX2_sumOf_27 : decode cX2_sumOf 27 = .ok (.iinc 4 1, 3) := by decide +kernel
theorem dX2_sumOf_30 : decode cX2_sumOf 30 = .ok (.goto (-20), 3) := by decide +kernel
theorem dX2_sumOf_33 : decode cX2_sumOf 33 = .ok (.iload_n 1, 1) := by decide +kernel
theorem dX2_sumOf_34 : decode cX2_sumOf 34 = .ok (.ireturn, 1) := by decide +kernel
theorem dX2_greatestOf_0 : decode cX2_greatestOf 0 = .ok (.iconst 0, 1) := by decide +kernel
theorem dX2_greatestOf_1 : decode cX2_greatestOf 1 = .ok (.istore_n 1, 1) := by decide +kernel
theorem dX2_greatestOf_2 : decode cX2_greatestOf 2 = .ok (.aload_n 0, 1) := by decide +kernel
theorem dX2_greatestOf_3 : decode cX2_greatestOf 3 = .ok (.astore_n 2, 1) := by decide +kernel
theorem dX2_greatestOf_4 : decode cX2_greatestOf 4 = .ok (.aload_n 2, 1) := by decide +kernel
theorem dX2_greatestOf_5 : decode cX2_greatestOf 5 = .ok (.arraylength, 1) := by decide +kernel
theorem dX2_greatestOf_6 : decode cX2_greatestOf 6 = .ok (.istore_n 3, 1) := by decide +kernel
theorem dX2_greatestOf_7 : decode cX2_greatestOf 7 = .ok (.iconst 0, 1) := by decide +kernel
theorem dX2_greatestOf_8 : decode cX2_greatestOf 8 = .ok (.istore 4, 2) := by decide +kernel
theorem dX2_greatestOf_10 : decode cX2_greatestOf 10 = .ok (.iload 4, 2) := by decide +kernel
theorem dX2_greatestOf_12 : decode cX2_greatestOf 12 = .ok (.iload_n 3, 1) := by decide +kernel
theorem dX2_greatestOf_13 : decode cX2_greatestOf 13 = .ok (.if_icmp .ge 22, 3) := by decide +kernel
theorem dX2_greatestOf_16 : decode cX2_greatestOf 16 = .ok (.aload_n 2, 1) := by decide +kernel
theorem dX2_greatestOf_17 : decode cX2_greatestOf 17 = .ok (.iload 4, 2) := by decide +kernel
theorem dX2_greatestOf_19 : decode cX2_greatestOf 19 = .ok (.iaload, 1) := by decide +kernel
theorem dX2_greatestOf_20 : decode cX2_greatestOf 20 = .ok (.istore 5, 2) := by decide +kernel
theorem dX2_greatestOf_22 : decode cX2_greatestOf 22 = .ok (.iload_n 1, 1) := by decide +kernel
theorem dX2_greatestOf_23 : decode cX2_greatestOf 23 = .ok (.iload 5, 2) := by decide +kernel
theorem dX2_greatestOf_25 : decode cX2_greatestOf 25 = .ok (.invokestatic 275, 3) := by decide +kernel
theorem dX2_greatestOf_28 : decode cX2_greatestOf 28 = .ok (.istore_n 1, 1) := by decide +kernel
theorem dX2_greatestOf_29 : decode cX2_greatestOf 29 = .ok (.iinc 4 1, 3) := by decide +kernel
theorem dX2_greatestOf_32 : decode cX2_greatestOf 32 = .ok (.goto (-22), 3) := by decide +kernel
theorem dX2_greatestOf_35 : decode cX2_greatestOf 35 = .ok (.iload_n 1, 1) := by decide +kernel
theorem dX2_greatestOf_36 : decode cX2_greatestOf 36 = .ok (.ireturn, 1) := by decide +kernel
theorem dX2_bitsOf_0 : decode cX2_bitsOf 0 = .ok (.fload_n 0, 1) := by decide +kernel
theorem dX2_bitsOf_1 : decode cX2_bitsOf 1 = .ok (.fconst 0, 1) := by decide +kernel
theorem dX2_bitsOf_2 : decode cX2_bitsOf 2 = .ok (.fcmp .g, 1) := by decide +kernel
theorem dX2_bitsOf_3 : decode cX2_bitsOf 3 = .ok (.ifCond .gt 5, 3) := by decide +kernel
theorem dX2_bitsOf_6 : decode cX2_bitsOf 6 = .ok (.iconst 0, 1) := by decide +kernel
theorem dX2_bitsOf_7 : decode cX2_bitsOf 7 = .ok (.ireturn, 1) := by decide +kernel
theorem dX2_bitsOf_8 : decode cX2_bitsOf 8 = .ok (.bipush 127, 2) := by decide +kernel
theorem dX2_bitsOf_10 : decode cX2_bitsOf 10 = .ok (.istore_n 1, 1) := by decide +kernel
theorem dX2_bitsOf_11 : decode cX2_bitsOf 11 = .ok (.fload_n 0, 1) := by decide +kernel
theorem dX2_bitsOf_12 : decode cX2_bitsOf 12 = .ok (.fstore_n 2, 1) := by decide +kernel
theorem dX2_bitsOf_13 : decode cX2_bitsOf 13 = .ok (.fload_n 2, 1) := by decide +kernel
theorem dX2_bitsOf_14 : decode cX2_bitsOf 14 = .ok (.fconst 1, 1) := by decide +kernel
theorem dX2_bitsOf_15 : decode cX2_bitsOf 15 = .ok (.fcmp .g, 1) := by decide +kernel
theorem dX2_bitsOf_16 : decode cX2_bitsOf 16 = .ok (.ifCond .ge 18, 3) := by decide +kernel
theorem dX2_bitsOf_19 : decode cX2_bitsOf 19 = .ok (.iload_n 1, 1) := by decide +kernel
theorem dX2_bitsOf_20 : decode cX2_bitsOf 20 = .ok (.iconst 1, 1) := by decide +kernel
theorem dX2_bitsOf_21 : decode cX2_bitsOf 21 = .ok (.if_icmp .le 13, 3) := by decide +kernel
theorem dX2_bitsOf_24 : decode cX2_bitsOf 24 = .ok (.fload_n 2, 1) := by decide +kernel
theorem dX2_bitsOf_25 : decode cX2_bitsOf 25 = .ok (.fconst 2, 1) := by decide +kernel
theorem dX2_bitsOf_26 : decode cX2_bitsOf 26 = .ok (.fmul, 1) := by decide +kernel
theorem dX2_bitsOf_27 : decode cX2_bitsOf 27 = .ok (.fstore_n 2, 1) := by decide +kernel
theorem dX2_bitsOf_28 : decode cX2_bitsOf 28 = .ok (.iinc 1 (-1), 3) := by decide +kernel
theorem dX2_bitsOf_31 : decode cX2_bitsOf 31 = .ok (.goto (-18), 3) := by decide +kernel
theorem dX2_bitsOf_34 : decode cX2_bitsOf 34 = .ok (.iload_n 1, 1) := by decide +kernel
theorem dX2_bitsOf_35 : decode cX2_bitsOf 35 = .ok (.bipush 23, 2) := by decide +kernel
theorem dX2_bitsOf_37 : decode cX2_bitsOf 37 = .ok (.ishl, 1) := by decide +kernel
theorem dX2_bitsOf_38 : decode cX2_bitsOf 38 = .ok (.fload_n 2, 1) := by decide +kernel
