theorem dX3_sleeps_45 : decode cX3_sleeps 45 = .ok (.isub, 1) := by decide +kernel
theorem dX3_sleeps_46 : decode cX3_sleeps 46 = .ok (.invokevirtual 82, 3) := by decide +kernel
theorem dX3_sleeps_49 : decode cX3_sleeps 49 = .ok (.aload_n 0, 1) := by decide +kernel
theorem dX3_sleeps_50 : decode cX3_sleeps 50 = .ok (.iload_n 1, 1) := by decide +kernel
theorem dX3_sleeps_51 : decode cX3_sleeps 51 = .ok (.iconst 4, 1) := by decide +kernel
theorem dX3_sleeps_52 : decode cX3_sleeps 52 = .ok (.iconst 0, 1) := by decide +kernel
theorem dX3_sleeps_53 : decode cX3_sleeps 53 = .ok (.invokevirtual 82, 3) := by decide +kernel
theorem dX3_sleeps_56 : decode cX3_sleeps 56 = .ok (.aload_n 0, 1) := by decide +kernel
theorem dX3_sleeps_57 : decode cX3_sleeps 57 = .ok (.iload_n 1, 1) := by decide +kernel
theorem dX3_sleeps_58 : decode cX3_sleeps 58 = .ok (.iconst 2, 1) := by decide +kernel
theorem dX3_sleeps_59 : decode cX3_sleeps 59 = .ok (.iconst 0, 1) := by decide +kernel
theorem dX3_sleeps_60 : decode cX3_sleeps 60 = .ok (.invokevirtual 82, 3) := by decide +kernel
theorem dX3_sleeps_63 : decode cX3_sleeps 63 = .ok (.aload_n 0, 1) := by decide +kernel
theorem dX3_sleeps_64 : decode cX3_sleeps 64 = .ok (.invokevirtual 140, 3) := by decide +kernel
theorem dX3_sleeps_67 : decode cX3_sleeps 67 = .ok (.ireturn, 1) := by decide +kernel
set_option maxRecDepth 20000 in
theorem ggX3_sleep_X3_tries : GoodIn wsX3_sleep wsX3_tries := goodIn_r _ [5, 6, 7, 47, 48, 49, 50, 51, 52, 53, 54, 55, 56, 57, 58, 59, 60, 61, 62, 63] (by decide +kernel) (by decide +kernel)
set_option maxRecDepth 20000 in
theorem gX3_sleep_X3_tries : GoodIn wsX3_sleep (wsV RX3 106 RX3 yX3_tries wsX3_tries) := goodIn_app (goodIn_of _ (by decide +kernel)) ggX3_sleep_X3_tries
set_option maxRecDepth 20000 in
theorem ggX3_sleep_X3_sleeps : GoodIn wsX3_sleep wsX3_sleeps := goodIn_r _ [11, 12, 13, 4, 14, 15, 16, 17, 18, 19, 20, 21, 7, 22, 23, 24, 25, 26, 27, 28, 29, 30, 31, 32, 33, 34, 35, 36, 37, 38, 39, 40, 47, 48, 49, 50, 51, 52, 53, 54, 55, 56, 57, 58, 59, 60, 61, 62, 63] (by decide +kernel) (by decide +kernel)
set_option maxRecDepth 20000 in
theorem gX3_sleep_X3_sleeps : GoodIn wsX3_sleep (wsV RX3 143 RX3 yX3_sleeps wsX3_sleeps) := goodIn_app (goodIn_of _ (by decide +kernel)) ggX3_sleep_X3_sleeps
set_option maxRecDepth 20000 in
theorem ggX3_sleep_X3_ends : GoodIn wsX3_sleep wsX3_ends := goodIn_r _ [44, 7, 6, 45, 46, 47, 48, 49, 50, 51, 52, 53, 54, 55, 56, 57, 58, 59, 60, 61, 62, 63] (by decide +kernel) (by decide +kernel)
set_option maxRecDepth 20000 in
theorem gX3_sleep_X3_ends : GoodIn wsX3_sleep (wsV RX3 112 RX3 yX3_ends wsX3_ends) := goodIn_app (goodIn_of _ (by decide +kernel)) ggX3_sleep_X3_ends
theorem dX3_sleep_0 : decode cX3_sleep 0 = .ok (.aload_n 0, 1) := by decide +kernel
theorem dX3_sleep_1 : decode cX3_sleep 1 = .ok (.invokevirtual 106, 3) := by decide +kernel
theorem dX3_sleep_4 : decode cX3_sleep 4 = .ok (.aload_n 0, 1) := by decide +kernel
theorem dX3_sleep_5 : decode cX3_sleep 5 = .ok (.aload_n 0, 1) := by decide +kernel
theorem dX3_sleep_6 : decode cX3_sleep 6 = .ok (.iload_n 1, 1) := by decide +kernel
theorem dX3_sleep_7 : decode cX3_sleep 7 = .ok (.iload_n 2, 1) := by decide +kernel
theorem dX3_sleep_8 : decode cX3_sleep 8 = .ok (.invokevirtual 143, 3) := by decide +kernel
theorem dX3_sleep_11 : decode cX3_sleep 11 = .ok (.invokevirtual 112, 3) := by decide +kernel
theorem dX3_sleep_14 : decode cX3_sleep 14 = .ok (.ireturn, 1) := by decide +kernel
set_option maxRecDepth 20000 in
theorem ggX3_hour_X3_isAwake : GoodIn wsX3_hour wsX3_isAwake := goodIn_r _ [6, 7, 8, 9, 5, 10, 1, 65, 66, 67, 68, 69, 70, 71, 72, 73, 74, 75, 76, 77, 78, 79, 80, 81] (by decide +kernel) (by decide +kernel)
set_option maxRecDepth 20000 in
theorem gX3_hour_X3_isAwake : GoodIn wsX3_hour (wsV RX3 64 RX3 yX3_isAwake wsX3_isAwake) := goodIn_app (goodIn_of _ (by decide +kernel)) ggX3_hour_X3_isAwake
set_option maxRecDepth 20000 in
theorem ggX3_hour_X3_of : GoodIn wsX3_hour wsX3_of := goodIn_r _ [10, 1, 65, 66, 67, 68, 69, 70, 71, 72, 73, 74, 75, 76, 77, 78, 79, 80, 81] (by decide +kernel) (by decide +kernel)
set_option maxRecDepth 20000 in
theorem gX3_hour_X3_of : GoodIn wsX3_hour (wsV RX3 52 RX3 yX3_of wsX3_of) := goodIn_app (goodIn_of _ (by decide +kernel)) ggX3_hour_X3_of
set_option maxRecDepth 20000 in
theorem ggX3_hour_X3_goes : GoodIn wsX3_hour wsX3_goes := goodIn_r _ [14, 1, 15, 16, 17, 18, 19, 20, 21, 5, 22, 2, 3, 4, 6, 7, 8, 9, 10, 23, 24, 25, 26, 27, 28, 29, 30, 31, 32, 33, 34, 35, 36, 37, 38, 39, 40, 41, 42, 43, 44, 45, 46, 47, 48, 49, 50, 51, 52, 65, 66, 67, 68, 69, 70, 71, 72, 73, 74, 75, 76, 77, 78, 79, 80, 81] (by decide +kernel) (by decide +kernel)
set_option maxRecDepth 20000 in
theorem gX3_hour_X3_goes : GoodIn wsX3_hour (wsV RX3 127 RX3 yX3_goes wsX3_goes) := goodIn_app (goodIn_of _ (by decide +kernel)) ggX3_hour_X3_goes
set_option maxRecDepth 20000 in
theorem ggX3_hour_X3_sets : GoodIn wsX3_hour wsX3_sets := goodIn_r _ [36, 1, 65, 66, 67, 68, 69, 70, 71, 72, 73, 74, 75, 76, 77, 78, 79, 80, 81] (by decide +kernel) (by decide +kernel)
set_option maxRecDepth 20000 in
theorem gX3_hour_X3_sets : GoodIn wsX3_hour (wsV RX3 82 RX3 yX3_sets wsX3_sets) := goodIn_app (goodIn_of _ (by decide +kernel)) ggX3_hour_X3_sets
set_option maxRecDepth 20000 in
theorem ggX3_hour_X3_asks : GoodIn wsX3_hour wsX3_asks := goodIn_r _ [56, 1, 7, 8, 9, 5, 10, 33, 34, 35, 36, 19, 20, 21, 22, 2, 3, 4, 6, 23, 24, 25, 26, 27, 17, 28, 15, 16, 18, 29, 30, 31, 32, 57, 58, 59, 60, 61, 62, 63, 64, 49, 50, 51, 52, 65, 66, 67, 68, 69, 70, 71, 72, 73, 74, 75, 76, 77, 78, 79, 80, 81] (by decide +kernel) (by decide +kernel)
set_option maxRecDepth 20000 in
theorem gX3_hour_X3_asks : GoodIn wsX3_hour (wsV RX3 103 RX3 yX3_asks wsX3_asks) := goodIn_app (goodIn_of _ (by decide +kernel)) ggX3_hour_X3_asks
theorem dX3_hour_0 : decode cX3_hour 0 = .ok (.iconst 0, 1) := by decide +kernel
theorem dX3_hour_1 : decode cX3_hour 1 = .ok (.istore_n 1, 1) := by decide +kernel
theorem dX3_hour_2 : decode cX3_hour 2 = .ok (.iload_n 1, 1) := by decide +kernel
theorem dX3_hour_3 : decode cX3_hour 3 = .ok (.iconst 5, 1) := by decide +kernel
theorem dX3_hour_4 : decode cX3_hour 4 = .ok (.if_icmp .ge 33, 3) := by decide +kernel
theorem dX3_hour_7 : decode cX3_hour 7 = .ok (.aload_n 0, 1) := by decide +kernel
theorem dX3_hour_8 : decode cX3_hour 8 = .ok (.iload_n 1, 1) := by decide +kernel
theorem dX3_hour_9 : decode cX3_hour 9 = .ok (.invokevirtual 64, 3) := by decide +kernel
theorem dX3_hour_12 : decode cX3_hour 12 = .ok (.ifCond .eq 19, 3) := by decide +kernel
theorem dX3_hour_15 : decode cX3_hour 15 = .ok (.aload_n 0, 1) := by decide +kernel
theorem dX3_hour_16 : decode cX3_hour 16 = .ok (.iload_n 1, 1) := by decide +kernel
theorem dX3_hour_17 : decode cX3_hour 17 = .ok (.iconst 2, 1) := by decide +kernel
theorem dX3_hour_18 : decode cX3_hour 18 = .ok (.invokevirtual 52, 3) := by decide +kernel
theorem dX3_hour_21 : decode cX3_hour 21 = .ok (.iconst 1, 1) := by decide +kernel
theorem dX3_hour_22 : decode cX3_hour 22 = .ok (.if_icmp .ne 9, 3) := by decide +kernel
theorem dX3_hour_25 : decode cX3_hour 25 = .ok (.aload_n 0, 1) := by decide +kernel
theorem dX3_hour_26 : decode cX3_hour 26 = .ok (.iload_n 1, 1) := by decide +kernel
theorem dX3_hour_27 : decode cX3_hour 27 = .ok (.invokevirtual 127, 3) := by decide +kernel
theorem dX3_hour_30 : decode cX3_hour 30 = .ok (.pop, 1) := by decide +kernel
theorem dX3_hour_31 : decode cX3_hour 31 = .ok (.iinc 1 1, 3) := by decide +kernel
theorem dX3_hour_34 : decode cX3_hour 34 = .ok (.goto (-32), 3) := by decide +kernel
theorem dX3_hour_37 : decode cX3_hour 37 = .ok (.iconst 0, 1) := by decide +kernel
theorem dX3_hour_38 : decode cX3_hour 38 = .ok (.istore_n 1, 1) := by decide +kernel
theorem dX3_hour_39 : decode cX3_hour 39 = .ok (.iload_n 1, 1) := by decide +kernel
theorem dX3_hour_40 : decode cX3_hour 40 = .ok (.iconst 5, 1) := by decide +kernel
theorem dX3_hour_41 : decode cX3_hour 41 = .ok (.if_icmp .ge 40, 3) := by decide +kernel
theorem dX3_hour_44 : decode cX3_hour 44 = .ok (.aload_n 0, 1) := by decide +kernel
theorem dX3_hour_45 : decode cX3_hour 45 = .ok (.iload_n 1, 1) := by decide +kernel
theorem dX3_hour_46 : decode cX3_hour 46 = .ok (.invokevirtual 64, 3) := by decide +kernel
theorem dX3_hour_49 : decode cX3_hour 49 = .ok (.ifCond .eq 26, 3) := by decide +kernel
theorem dX3_hour_52 : decode cX3_hour 52 = .ok (.aload_n 0, 1) := by decide +kernel
theorem dX3_hour_53 : decode cX3_hour 53 = .ok (.iload_n 1, 1) := by decide +kernel
theorem dX3_hour_54 : decode cX3_hour 54 = .ok (.iconst 2, 1) := by decide +kernel
theorem dX3_hour_55 : decode cX3_hour 55 = .ok (.invokevirtual 52, 3) := by decide +kernel
theorem dX3_hour_58 : decode cX3_hour 58 = .ok (.ifCond .ne 17, 3) := by decide +kernel
theorem dX3_hour_61 : decode cX3_hour 61 = .ok (.aload_n 0, 1) := by decide +kernel
theorem dX3_hour_62 : decode cX3_hour 62 = .ok (.iload_n 1, 1) := by decide +kernel
theorem dX3_hour_63 : decode cX3_hour 63 = .ok (.iconst 4, 1) := by decide +kernel
theorem dX3_hour_64 : decode cX3_hour 64 = .ok (.aload_n 0, 1) := by decide +kernel
theorem dX3_hour_65 : decode cX3_hour 65 = .ok (.iload_n 1, 1) := by decide +kernel
theorem dX3_hour_66 : decode cX3_hour 66 = .ok (.iconst 4, 1) := by decide +kernel
theorem dX3_hour_67 : decode cX3_hour 67 = .ok (.invokevirtual 52, 3) := by decide +kernel
theorem dX3_hour_70 : decode cX3_hour 70 = .ok (.iconst 1, 1) := by decide +kernel
theorem dX3_hour_71 : decode cX3_hour 71 = .ok (.iadd, 1) := by decide +kernel
theorem dX3_hour_72 : decode cX3_hour 72 = .ok (.invokevirtual 82, 3) := by decide +kernel
theorem dX3_hour_75 : decode cX3_hour 75 = .ok (.iinc 1 1, 3) := by decide +kernel
theorem dX3_hour_78 : decode cX3_hour 78 = .ok (.goto (-39), 3) := by decide +kernel
theorem dX3_hour_81 : decode cX3_hour 81 = .ok (.iconst 0, 1) := by decide +kernel
theorem dX3_hour_82 : decode cX3_hour 82 = .ok (.istore_n 1, 1) := by decide +kernel
theorem dX3_hour_83 : decode cX3_hour 83 = .ok (.iload_n 1, 1) := by decide +kernel
theorem dX3_hour_84 : decode cX3_hour 84 = .ok (.iconst 5, 1) := by decide +kernel
theorem dX3_hour_85 : decode cX3_hour 85 = .ok (.if_icmp .ge 44, 3) := by decide +kernel
theorem dX3_hour_88 : decode cX3_hour 88 = .ok (.aload_n 0, 1) := by decide +kernel
theorem dX3_hour_89 : decode cX3_hour 89 = .ok (.iload_n 1, 1) := by decide +kernel
theorem dX3_hour_90 : decode cX3_hour 90 = .ok (.invokevirtual 64, 3) := by decide +kernel
theorem dX3_hour_93 : decode cX3_hour 93 = .ok (.ifCond .eq 30, 3) := by decide +kernel
theorem dX3_hour_96 : decode cX3_hour 96 = .ok (.aload_n 0, 1) := by decide +kernel
theorem dX3_hour_97 : decode cX3_hour 97 = .ok (.iload_n 1, 1) := by decide +kernel
theorem dX3_hour_98 : decode cX3_hour 98 = .ok (.iconst 2, 1) := by decide +kernel
theorem dX3_hour_99 : decode cX3_hour 99 = .ok (.invokevirtual 52, 3) := by decide +kernel
theorem dX3_hour_102 : decode cX3_hour 102 = .ok (.ifCond .ne 21, 3) := by decide +kernel
theorem dX3_hour_105 : decode cX3_hour 105 = .ok (.aload_n 0, 1) := by decide +kernel
theorem dX3_hour_106 : decode cX3_hour 106 = .ok (.iload_n 1, 1) := by decide +kernel
theorem dX3_hour_107 : decode cX3_hour 107 = .ok (.iconst 4, 1) := by decide +kernel
theorem dX3_hour_108 : decode cX3_hour 108 = .ok (.invokevirtual 52, 3) := by decide +kernel
theorem dX3_hour_111 : decode cX3_hour 111 = .ok (.iconst 3, 1) := by decide +kernel
theorem dX3_hour_112 : decode cX3_hour 112 = .ok (.iload_n 1, 1) := by decide +kernel
theorem dX3_hour_113 : decode cX3_hour 113 = .ok (.iadd, 1) := by decide +kernel
theorem dX3_hour_114 : decode cX3_hour 114 = .ok (.if_icmp .lt 9, 3) := by decide +kernel
theorem dX3_hour_117 : decode cX3_hour 117 = .ok (.aload_n 0, 1) := by decide +kernel
theorem dX3_hour_118 : decode cX3_hour 118 = .ok (.iload_n 1, 1) := by decide +kernel
theorem dX3_hour_119 : decode cX3_hour 119 = .ok (.invokevirtual 103, 3) := by decide +kernel
theorem dX3_hour_122 : decode cX3_hour 122 = .ok (.pop, 1) := by decide +kernel
theorem dX3_hour_123 : decode cX3_hour 123 = .ok (.iinc 1 1, 3) := by decide +kernel
theorem dX3_hour_126 : decode cX3_hour 126 = .ok (.goto (-43), 3) := by decide +kernel
theorem dX3_hour_129 : decode cX3_hour 129 = .ok (.aload_n 0, 1) := by decide +kernel
theorem dX3_hour_130 : decode cX3_hour 130 = .ok (.getfield 9, 3) := by decide +kernel
theorem dX3_hour_133 : decode cX3_hour 133 = .ok (.iconst 5, 1) := by decide +kernel
theorem dX3_hour_134 : decode cX3_hour 134 = .ok (.dup2, 1) := by decide +kernel
theorem dX3_hour_135 : decode cX3_hour 135 = .ok (.iaload, 1) := by decide +kernel
theorem dX3_hour_136 : decode cX3_hour 136 = .ok (.iconst 1, 1) := by decide +kernel
theorem dX3_hour_137 : decode cX3_hour 137 = .ok (.iadd, 1) := by decide +kernel
theorem dX3_hour_138 : decode cX3_hour 138 = .ok (.iastore, 1) := by decide +kernel
theorem dX3_hour_139 : decode cX3_hour 139 = .ok (.return_, 1) := by decide +kernel
set_option maxRecDepth 20000 in
theorem ggX3_passes_X3_in : GoodIn wsX3_passes wsX3_in := goodIn_r _ [5] (by decide +kernel) (by decide +kernel)
set_option maxRecDepth 20000 in
theorem gX3_passes_X3_in : GoodIn wsX3_passes (va_wsS RX3 48 yX3_in wsX3_in) := goodIn_app (goodIn_of _ (by decide +kernel)) ggX3_passes_X3_in
set_option maxRecDepth 20000 in
theorem ggX3_passes_X3_hour : GoodIn wsX3_passes wsX3_hour := goodIn_r _ [9, 1, 10, 11, 12, 4, 13, 14, 15, 16, 17, 18, 19, 20, 21, 22, 23, 24, 25, 26, 27, 28, 29, 30, 31, 32, 33, 34, 35, 36, 37, 38, 39, 40, 41, 42, 43, 44, 45, 46, 47, 48, 49, 50, 51, 52, 53, 54, 55, 56, 57, 58, 59, 60, 61, 62, 63, 64, 65, 66, 67, 68, 69, 70, 71, 72, 73, 74, 75, 76, 77, 78, 79, 80, 81, 82, 83, 84, 85, 86, 87, 88] (by decide +kernel) (by decide +kernel)
set_option maxRecDepth 20000 in
theorem gX3_passes_X3_hour : GoodIn wsX3_passes (wsV RX3 146 RX3 yX3_hour wsX3_hour) := goodIn_app (goodIn_of _ (by decide +kernel)) ggX3_passes_X3_hour
theorem dX3_passes_0 : decode cX3_passes 0 = .ok (.iload_n 1, 1) := by decide +kernel
theorem dX3_passes_1 : decode cX3_passes 1 = .ok (.iconst 1, 1) := by decide +kernel
theorem dX3_passes_2 : decode cX3_passes 2 = .ok (.bipush 30, 2) := by decide +kernel
theorem dX3_passes_4 : decode cX3_passes 4 = .ok (.invokestatic 48, 3) := by decide +kernel
theorem dX3_passes_7 : decode cX3_passes 7 = .ok (.ifCond .ne 6, 3) := by decide +kernel
theorem dX3_passes_10 : decode cX3_passes 10 = .ok (.bipush (-2), 2) := by decide +kernel
theorem dX3_passes_12 : decode cX3_passes 12 = .ok (.ireturn, 1) := by decide +kernel
theorem dX3_passes_13 : decode cX3_passes 13 = .ok (.aload_n 0, 1) := by decide +kernel
theorem dX3_passes_14 : decode cX3_passes 14 = .ok (.getfield 9, 3) := by decide +kernel
theorem dX3_passes_17 : decode cX3_passes 17 = .ok (.iconst 1, 1) := by decide +kernel
theorem dX3_passes_18 : decode cX3_passes 18 = .ok (.iaload, 1) := by decide +kernel
theorem dX3_passes_19 : decode cX3_passes 19 = .ok (.istore_n 2, 1) := by decide +kernel
theorem dX3_passes_20 : decode cX3_passes 20 = .ok (.iconst 0, 1) := by decide +kernel
theorem dX3_passes_21 : decode cX3_passes 21 = .ok (.istore_n 3, 1) := by decide +kernel
theorem dX3_passes_22 : decode cX3_passes 22 = .ok (.iload_n 3, 1) := by decide +kernel
theorem dX3_passes_23 : decode cX3_passes 23 = .ok (.iload_n 1, 1) := by decide +kernel
theorem dX3_passes_24 : decode cX3_passes 24 = .ok (.if_icmp .ge 13, 3) := by decide +kernel
theorem dX3_passes_27 : decode cX3_passes 27 = .ok (.aload_n 0, 1) := by decide +kernel
theorem dX3_passes_28 : decode cX3_passes 28 = .ok (.invokevirtual 146, 3) := by decide +kernel
theorem dX3_passes_31 : decode cX3_passes 31 = .ok (.iinc 3 1, 3) := by decide +kernel
theorem dX3_passes_34 : decode cX3_passes 34 = .ok (.goto (-12), 3) := by decide +kernel
theorem dX3_passes_37 : decode cX3_passes 37 = .ok (.aload_n 0, 1) := by decide +kernel
theorem dX3_passes_38 : decode cX3_passes 38 = .ok (.getfield 9, 3) := by decide +kernel
theorem dX3_passes_41 : decode cX3_passes 41 = .ok (.iconst 1, 1) := by decide +kernel
theorem dX3_passes_42 : decode cX3_passes 42 = .ok (.iaload, 1) := by decide +kernel
theorem dX3_passes_43 : decode cX3_passes 43 = .ok (.iload_n 2, 1) := by decide +kernel
theorem dX3_passes_44 : decode cX3_passes 44 = .ok (.isub, 1) := by decide +kernel
theorem dX3_passes_45 : decode cX3_passes 45 = .ok (.ireturn, 1) := by decide +kernel
set_option maxRecDepth 20000 in
theorem ggX3_pass_X3_tries : GoodIn wsX3_pass wsX3_tries := goodIn_r _ [5, 6, 7, 87, 88, 89, 90, 91, 92, 93, 94, 95, 96, 97, 98, 99, 100, 101, 102, 103] (by decide +kernel) (by decide +kernel)
set_option maxRecDepth 20000 in
theorem gX3_pass_X3_tries : GoodIn wsX3_pass (wsV RX3 106 RX3 yX3_tries wsX3_tries) := goodIn_app (goodIn_of _ (by decide +kernel)) ggX3_pass_X3_tries
set_option maxRecDepth 20000 in
theorem ggX3_pass_X3_passes : GoodIn wsX3_pass wsX3_passes := goodIn_r _ [11, 7, 12, 13, 4, 14, 15, 16, 17, 18, 19, 20, 21, 22, 23, 24, 25, 26, 27, 28, 29, 30, 31, 32, 33, 34, 35, 36, 37, 38, 39, 40, 41, 42, 43, 44, 45, 46, 47, 48, 49, 50, 51, 52, 53, 54, 55, 56, 57, 58, 59, 60, 61, 62, 63, 64, 65, 66, 67, 68, 69, 70, 71, 72, 73, 74, 75, 76, 77, 78, 79, 80, 87, 88, 89, 90, 91, 92, 93, 94, 95, 96, 97, 98, 99, 100, 101, 102, 103] (by decide +kernel) (by decide +kernel)
set_option maxRecDepth 20000 in
theorem gX3_pass_X3_passes : GoodIn wsX3_pass (wsV RX3 149 RX3 yX3_passes wsX3_passes) := goodIn_app (goodIn_of _ (by decide +kernel)) ggX3_pass_X3_passes
set_option maxRecDepth 20000 in
theorem ggX3_pass_X3_ends : GoodIn wsX3_pass wsX3_ends := goodIn_r _ [84, 7, 6, 85, 86, 87, 88, 89, 90, 91, 92, 93, 94, 95, 96, 97, 98, 99, 100, 101, 102, 103] (by decide +kernel) (by decide +kernel)
set_option maxRecDepth 20000 in
theorem gX3_pass_X3_ends : GoodIn wsX3_pass (wsV RX3 112 RX3 yX3_ends wsX3_ends) := goodIn_app (goodIn_of _ (by decide +kernel)) ggX3_pass_X3_ends
theorem dX3_pass_0 : decode cX3_pass 0 = .ok (.aload_n 0, 1) := by decide +kernel
theorem dX3_pass_1 : decode cX3_pass 1 = .ok (.invokevirtual 106, 3) := by decide +kernel
theorem dX3_pass_4 : decode cX3_pass 4 = .ok (.aload_n 0, 1) := by decide +kernel
theorem dX3_pass_5 : decode cX3_pass 5 = .ok (.aload_n 0, 1) := by decide +kernel
theorem dX3_pass_6 : decode cX3_pass 6 = .ok (.iload_n 1, 1) := by decide +kernel
theorem dX3_pass_7 : decode cX3_pass 7 = .ok (.invokevirtual 149, 3) := by decide +kernel
theorem dX3_pass_10 : decode cX3_pass 10 = .ok (.invokevirtual 112, 3) := by decide +kernel
theorem dX3_pass_13 : decode cX3_pass 13 = .ok (.ireturn, 1) := by decide +kernel
set_option maxRecDepth 20000 in
theorem ggX3_campOf_X3_isCamp : GoodIn wsX3_campOf wsX3_isCamp := goodIn_r _ [4, 5, 6, 3, 7] (by decide +kernel) (by decide +kernel)
set_option maxRecDepth 20000 in
theorem gX3_campOf_X3_isCamp : GoodIn wsX3_campOf (va_wsS RX3 97 yX3_isCamp wsX3_isCamp) := goodIn_app (goodIn_of _ (by decide +kernel)) ggX3_campOf_X3_isCamp
set_option maxRecDepth 20000 in
theorem ggX3_campOf_X3_of : GoodIn wsX3_campOf wsX3_of := goodIn_r _ [11, 12, 25, 26, 27, 28, 29, 30, 31, 32, 33, 34, 35, 36, 37, 38, 39, 40, 41] (by decide +kernel) (by decide +kernel)
set_option maxRecDepth 20000 in
theorem gX3_campOf_X3_of : GoodIn wsX3_campOf (wsV RX3 52 RX3 yX3_of wsX3_of) := goodIn_app (goodIn_of _ (by decide +kernel)) ggX3_campOf_X3_of
set_option maxRecDepth 20000 in
theorem ggX3_campOf_X3_isAwake : GoodIn wsX3_campOf wsX3_isAwake := goodIn_r _ [16, 8, 9, 10, 3, 11, 12, 25, 26, 27, 28, 29, 30, 31, 32, 33, 34, 35, 36, 37, 38, 39, 40, 41] (by decide +kernel) (by decide +kernel)
set_option maxRecDepth 20000 in
theorem gX3_campOf_X3_isAwake : GoodIn wsX3_campOf (wsV RX3 64 RX3 yX3_isAwake wsX3_isAwake) := goodIn_app (goodIn_of _ (by decide +kernel)) ggX3_campOf_X3_isAwake
set_option maxRecDepth 20000 in
theorem ggX3_campOf_X3_lastTerm : GoodIn wsX3_campOf wsX3_lastTerm := goodIn_r _ [20, 8, 9, 10, 3, 11, 12, 21, 22, 23, 24, 25, 26, 27, 28, 29, 30, 31, 32, 33, 34, 35, 36, 37, 38, 39, 40, 41] (by decide +kernel) (by decide +kernel)
set_option maxRecDepth 20000 in
theorem gX3_campOf_X3_lastTerm : GoodIn wsX3_campOf (wsV RX3 75 RX3 yX3_lastTerm wsX3_lastTerm) := goodIn_app (goodIn_of _ (by decide +kernel)) ggX3_campOf_X3_lastTerm
theorem dX3_campOf_0 : decode cX3_campOf 0 = .ok (.iload_n 1, 1) := by decide +kernel
theorem dX3_campOf_1 : decode cX3_campOf 1 = .ok (.invokestatic 97, 3) := by decide +kernel
theorem dX3_campOf_4 : decode cX3_campOf 4 = .ok (.ifCond .ne 5, 3) := by decide +kernel
theorem dX3_campOf_7 : decode cX3_campOf 7 = .ok (.iconst (-1), 1) := by decide +kernel
theorem dX3_campOf_8 : decode cX3_campOf 8 = .ok (.ireturn, 1) := by decide +kernel
theorem dX3_campOf_9 : decode cX3_campOf 9 = .ok (.iload_n 2, 1) := by decide +kernel
theorem dX3_campOf_10 : decode cX3_campOf 10 = .ok (.tableswitch 133 0 8 #[50, 57, 80, 87, 101, 109, 116, 123, 127], 50) := by decide +kernel
theorem dX3_campOf_60 : decode cX3_campOf 60 = .ok (.aload_n 0, 1) := by decide +kernel
theorem dX3_campOf_61 : decode cX3_campOf 61 = .ok (.iload_n 1, 1) := by decide +kernel
theorem dX3_campOf_62 : decode cX3_campOf 62 = .ok (.iconst 0, 1) := by decide +kernel
theorem dX3_campOf_63 : decode cX3_campOf 63 = .ok (.invokevirtual 52, 3) := by decide +kernel
theorem dX3_campOf_66 : decode cX3_campOf 66 = .ok (.ireturn, 1) := by decide +kernel
theorem dX3_campOf_67 : decode cX3_campOf 67 = .ok (.aload_n 0, 1) := by decide +kernel
theorem dX3_campOf_68 : decode cX3_campOf 68 = .ok (.iload_n 1, 1) := by decide +kernel
theorem dX3_campOf_69 : decode cX3_campOf 69 = .ok (.iconst 1, 1) := by decide +kernel
theorem dX3_campOf_70 : decode cX3_campOf 70 = .ok (.invokevirtual 52, 3) := by decide +kernel
theorem dX3_campOf_73 : decode cX3_campOf 73 = .ok (.ifCond .ne 8, 3) := by decide +kernel
theorem dX3_campOf_76 : decode cX3_campOf 76 = .ok (.bipush (-4), 2) := by decide +kernel
theorem dX3_campOf_78 : decode cX3_campOf 78 = .ok (.goto 11, 3) := by decide +kernel
theorem dX3_campOf_81 : decode cX3_campOf 81 = .ok (.aload_n 0, 1) := by decide +kernel
theorem dX3_campOf_82 : decode cX3_campOf 82 = .ok (.iload_n 1, 1) := by decide +kernel
theorem dX3_campOf_83 : decode cX3_campOf 83 = .ok (.iconst 1, 1) := by decide +kernel
theorem dX3_campOf_84 : decode cX3_campOf 84 = .ok (.invokevirtual 52, 3) := by decide +kernel
theorem dX3_campOf_87 : decode cX3_campOf 87 = .ok (.iconst 1, 1) := by decide +kernel
theorem dX3_campOf_88 : decode cX3_campOf 88 = .ok (.isub, 1) := by decide +kernel
theorem dX3_campOf_89 : decode cX3_campOf 89 = .ok (.ireturn, 1) := by decide +kernel
theorem dX3_campOf_90 : decode cX3_campOf 90 = .ok (.aload_n 0, 1) := by decide +kernel
theorem dX3_campOf_91 : decode cX3_campOf 91 = .ok (.iload_n 1, 1) := by decide +kernel
theorem dX3_campOf_92 : decode cX3_campOf 92 = .ok (.iconst 2, 1) := by decide +kernel
theorem dX3_campOf_93 : decode cX3_campOf 93 = .ok (.invokevirtual 52, 3) := by decide +kernel
theorem dX3_campOf_96 : decode cX3_campOf 96 = .ok (.ireturn, 1) := by decide +kernel
theorem dX3_campOf_97 : decode cX3_campOf 97 = .ok (.aload_n 0, 1) := by decide +kernel
theorem dX3_campOf_98 : decode cX3_campOf 98 = .ok (.iload_n 1, 1) := by decide +kernel
theorem dX3_campOf_99 : decode cX3_campOf 99 = .ok (.invokevirtual 64, 3) := by decide +kernel
theorem dX3_campOf_102 : decode cX3_campOf 102 = .ok (.ifCond .eq 7, 3) := by decide +kernel
theorem dX3_campOf_105 : decode cX3_campOf 105 = .ok (.iconst 1, 1) := by decide +kernel
theorem dX3_campOf_106 : decode cX3_campOf 106 = .ok (.goto 4, 3) := by decide +kernel
theorem dX3_campOf_109 : decode cX3_campOf 109 = .ok (.iconst 0, 1) := by decide +kernel
theorem dX3_campOf_110 : decode cX3_campOf 110 = .ok (.ireturn, 1) := by decide +kernel
theorem dX3_campOf_111 : decode cX3_campOf 111 = .ok (.aload_n 0, 1) := by decide +kernel
theorem dX3_campOf_112 : decode cX3_campOf 112 = .ok (.iload_n 1, 1) := by decide +kernel
theorem dX3_campOf_113 : decode cX3_campOf 113 = .ok (.bipush 6, 2) := by decide +kernel
theorem dX3_campOf_115 : decode cX3_campOf 115 = .ok (.invokevirtual 52, 3) := by decide +kernel
theorem dX3_campOf_118 : decode cX3_campOf 118 = .ok (.ireturn, 1) := by decide +kernel
theorem dX3_campOf_119 : decode cX3_campOf 119 = .ok (.aload_n 0, 1) := by decide +kernel
theorem dX3_campOf_120 : decode cX3_campOf 120 = .ok (.iload_n 1, 1) := by decide +kernel
theorem dX3_campOf_121 : decode cX3_campOf 121 = .ok (.iconst 5, 1) := by decide +kernel
theorem dX3_campOf_122 : decode cX3_campOf 122 = .ok (.invokevirtual 52, 3) := by decide +kernel
theorem dX3_campOf_125 : decode cX3_campOf 125 = .ok (.ireturn, 1) := by decide +kernel
theorem dX3_campOf_126 : decode cX3_campOf 126 = .ok (.aload_n 0, 1) := by decide +kernel
theorem dX3_campOf_127 : decode cX3_campOf 127 = .ok (.iload_n 1, 1) := by decide +kernel
theorem dX3_campOf_128 : decode cX3_campOf 128 = .ok (.iconst 4, 1) := by decide +kernel
theorem dX3_campOf_129 : decode cX3_campOf 129 = .ok (.invokevirtual 52, 3) := by decide +kernel
theorem dX3_campOf_132 : decode cX3_campOf 132 = .ok (.ireturn, 1) := by decide +kernel
theorem dX3_campOf_133 : decode cX3_campOf 133 = .ok (.iconst 3, 1) := by decide +kernel
theorem dX3_campOf_134 : decode cX3_campOf 134 = .ok (.iload_n 1, 1) := by decide +kernel
theorem dX3_campOf_135 : decode cX3_campOf 135 = .ok (.iadd, 1) := by decide +kernel
theorem dX3_campOf_136 : decode cX3_campOf 136 = .ok (.ireturn, 1) := by decide +kernel
theorem dX3_campOf_137 : decode cX3_campOf 137 = .ok (.aload_n 0, 1) := by decide +kernel
theorem dX3_campOf_138 : decode cX3_campOf 138 = .ok (.iload_n 1, 1) := by decide +kernel
theorem dX3_campOf_139 : decode cX3_campOf 139 = .ok (.invokevirtual 75, 3) := by decide +kernel
theorem dX3_campOf_142 : decode cX3_campOf 142 = .ok (.ireturn, 1) := by decide +kernel
theorem dX3_campOf_143 : decode cX3_campOf 143 = .ok (.bipush (-2), 2) := by decide +kernel
theorem dX3_campOf_145 : decode cX3_campOf 145 = .ok (.ireturn, 1) := by decide +kernel
set_option maxRecDepth 20000 in
theorem ggX3_pageOf_X3_isCamp : GoodIn wsX3_pageOf wsX3_isCamp := goodIn_r _ [4, 5, 6, 3, 7] (by decide +kernel) (by decide +kernel)
set_option maxRecDepth 20000 in
theorem gX3_pageOf_X3_isCamp : GoodIn wsX3_pageOf (va_wsS RX3 97 yX3_isCamp wsX3_isCamp) := goodIn_app (goodIn_of _ (by decide +kernel)) ggX3_pageOf_X3_isCamp
set_option maxRecDepth 20000 in
theorem ggX3_pageOf_X3_of : GoodIn wsX3_pageOf wsX3_of := goodIn_r _ [11, 12, 17, 18, 19, 20, 21, 22, 23, 24, 25, 26, 27, 28, 29, 30, 31, 32, 33] (by decide +kernel) (by decide +kernel)
set_option maxRecDepth 20000 in
theorem gX3_pageOf_X3_of : GoodIn wsX3_pageOf (wsV RX3 52 RX3 yX3_of wsX3_of) := goodIn_app (goodIn_of _ (by decide +kernel)) ggX3_pageOf_X3_of
set_option maxRecDepth 20000 in
theorem ggX3_pageOf_X3_in : GoodIn wsX3_pageOf wsX3_in := goodIn_r _ [7] (by decide +kernel) (by decide +kernel)
set_option maxRecDepth 20000 in
theorem gX3_pageOf_X3_in : GoodIn wsX3_pageOf (va_wsS RX3 48 yX3_in wsX3_in) := goodIn_app (goodIn_of _ (by decide +kernel)) ggX3_pageOf_X3_in
set_option maxRecDepth 20000 in
theorem ggX3_pageOf_X3_page : GoodIn wsX3_pageOf wsX3_page := goodIn_r _ [16, 8, 9, 10, 3, 11, 12, 17, 18, 19, 20, 21, 22, 23, 24, 25, 26, 27, 28, 29, 30, 31, 32, 33] (by decide +kernel) (by decide +kernel)
set_option maxRecDepth 20000 in
theorem gX3_pageOf_X3_page : GoodIn wsX3_pageOf (wsV RX3 71 RX3 yX3_page wsX3_page) := goodIn_app (goodIn_of _ (by decide +kernel)) ggX3_pageOf_X3_page
theorem dX3_pageOf_0 : decode cX3_pageOf 0 = .ok (.iload_n 1, 1) := by decide +kernel
theorem dX3_pageOf_1 : decode cX3_pageOf 1 = .ok (.invokestatic 97, 3) := by decide +kernel
theorem dX3_pageOf_4 : decode cX3_pageOf 4 = .ok (.ifCond .eq 20, 3) := by decide +kernel
theorem dX3_pageOf_7 : decode cX3_pageOf 7 = .ok (.iload_n 2, 1) := by decide +kernel
theorem dX3_pageOf_8 : decode cX3_pageOf 8 = .ok (.iconst 0, 1) := by decide +kernel
theorem dX3_pageOf_9 : decode cX3_pageOf 9 = .ok (.aload_n 0, 1) := by decide +kernel
theorem dX3_pageOf_10 : decode cX3_pageOf 10 = .ok (.iload_n 1, 1) := by decide +kernel
theorem dX3_pageOf_11 : decode cX3_pageOf 11 = .ok (.bipush 6, 2) := by decide +kernel
theorem dX3_pageOf_13 : decode cX3_pageOf 13 = .ok (.invokevirtual 52, 3) := by decide +kernel
theorem dX3_pageOf_16 : decode cX3_pageOf 16 = .ok (.iconst 1, 1) := by decide +kernel
theorem dX3_pageOf_17 : decode cX3_pageOf 17 = .ok (.isub, 1) := by decide +kernel
theorem dX3_pageOf_18 : decode cX3_pageOf 18 = .ok (.invokestatic 48, 3) := by decide +kernel
theorem dX3_pageOf_21 : decode cX3_pageOf 21 = .ok (.ifCond .ne 5, 3) := by decide +kernel
theorem dX3_pageOf_24 : decode cX3_pageOf 24 = .ok (.iconst (-1), 1) := by decide +kernel
theorem dX3_pageOf_25 : decode cX3_pageOf 25 = .ok (.ireturn, 1) := by decide +kernel
theorem dX3_pageOf_26 : decode cX3_pageOf 26 = .ok (.iload_n 3, 1) := by decide +kernel
theorem dX3_pageOf_27 : decode cX3_pageOf 27 = .ok (.iconst 0, 1) := by decide +kernel
theorem dX3_pageOf_28 : decode cX3_pageOf 28 = .ok (.iconst 1, 1) := by decide +kernel
theorem dX3_pageOf_29 : decode cX3_pageOf 29 = .ok (.invokestatic 48, 3) := by decide +kernel
theorem dX3_pageOf_32 : decode cX3_pageOf 32 = .ok (.ifCond .eq 13, 3) := by decide +kernel
theorem dX3_pageOf_35 : decode cX3_pageOf 35 = .ok (.aload_n 0, 1) := by decide +kernel
theorem dX3_pageOf_36 : decode cX3_pageOf 36 = .ok (.iload_n 1, 1) := by decide +kernel
theorem dX3_pageOf_37 : decode cX3_pageOf 37 = .ok (.iload_n 2, 1) := by decide +kernel
theorem dX3_pageOf_38 : decode cX3_pageOf 38 = .ok (.iload_n 3, 1) := by decide +kernel
theorem dX3_pageOf_39 : decode cX3_pageOf 39 = .ok (.invokevirtual 71, 3) := by decide +kernel
theorem dX3_pageOf_42 : decode cX3_pageOf 42 = .ok (.goto 5, 3) := by decide +kernel
theorem dX3_pageOf_45 : decode cX3_pageOf 45 = .ok (.bipush (-2), 2) := by decide +kernel
theorem dX3_pageOf_47 : decode cX3_pageOf 47 = .ok (.ireturn, 1) := by decide +kernel
set_option maxRecDepth 20000 in
theorem ggX3_reaches_X3_isCamp : GoodIn wsX3_reaches wsX3_isCamp := goodIn_r _ [4, 5, 6, 3, 7] (by decide +kernel) (by decide +kernel)
set_option maxRecDepth 20000 in
theorem gX3_reaches_X3_isCamp : GoodIn wsX3_reaches (va_wsS RX3 97 yX3_isCamp wsX3_isCamp) := goodIn_app (goodIn_of _ (by decide +kernel)) ggX3_reaches_X3_isCamp
set_option maxRecDepth 20000 in
theorem ggX3_reaches_X3_isReached : GoodIn wsX3_reaches wsX3_isReached := goodIn_r _ [11, 12, 13, 14, 15, 3, 16, 17, 18, 19, 20, 21, 22, 23, 24, 25, 26, 27, 28, 29, 30, 31, 32, 33, 34, 35, 36, 37, 38, 39, 40, 41, 42, 43, 44, 45, 46, 47] (by decide +kernel) (by decide +kernel)
set_option maxRecDepth 20000 in
theorem gX3_reaches_X3_isReached : GoodIn wsX3_reaches (wsV RX3 86 RX3 yX3_isReached wsX3_isReached) := goodIn_app (goodIn_of _ (by decide +kernel)) ggX3_reaches_X3_isReached
theorem dX3_reaches_0 : decode cX3_reaches 0 = .ok (.iload_n 1, 1) := by decide +kernel
theorem dX3_reaches_1 : decode cX3_reaches 1 = .ok (.invokestatic 97, 3) := by decide +kernel
theorem dX3_reaches_4 : decode cX3_reaches 4 = .ok (.ifCond .eq 10, 3) := by decide +kernel
theorem dX3_reaches_7 : decode cX3_reaches 7 = .ok (.iload_n 2, 1) := by decide +kernel
theorem dX3_reaches_8 : decode cX3_reaches 8 = .ok (.invokestatic 97, 3) := by decide +kernel
theorem dX3_reaches_11 : decode cX3_reaches 11 = .ok (.ifCond .ne 5, 3) := by decide +kernel
theorem dX3_reaches_14 : decode cX3_reaches 14 = .ok (.iconst (-1), 1) := by decide +kernel
theorem dX3_reaches_15 : decode cX3_reaches 15 = .ok (.ireturn, 1) := by decide +kernel
theorem dX3_reaches_16 : decode cX3_reaches 16 = .ok (.aload_n 0, 1) := by decide +kernel
theorem dX3_reaches_17 : decode cX3_reaches 17 = .ok (.iload_n 1, 1) := by decide +kernel
theorem dX3_reaches_18 : decode cX3_reaches 18 = .ok (.iload_n 2, 1) := by decide +kernel
theorem dX3_reaches_19 : decode cX3_reaches 19 = .ok (.invokevirtual 86, 3) := by decide +kernel
theorem dX3_reaches_22 : decode cX3_reaches 22 = .ok (.ifCond .eq 7, 3) := by decide +kernel
theorem dX3_reaches_25 : decode cX3_reaches 25 = .ok (.iconst 1, 1) := by decide +kernel
theorem dX3_reaches_26 : decode cX3_reaches 26 = .ok (.goto 4, 3) := by decide +kernel
theorem dX3_reaches_29 : decode cX3_reaches 29 = .ok (.iconst 0, 1) := by decide +kernel
theorem dX3_reaches_30 : decode cX3_reaches 30 = .ok (.ireturn, 1) := by decide +kernel
set_option maxRecDepth 20000 in
theorem ggX3_matches_X3_isCamp : GoodIn wsX3_matches wsX3_isCamp := goodIn_r _ [4, 5, 6, 3, 7] (by decide +kernel) (by decide +kernel)
set_option maxRecDepth 20000 in
theorem gX3_matches_X3_isCamp : GoodIn wsX3_matches (va_wsS RX3 97 yX3_isCamp wsX3_isCamp) := goodIn_app (goodIn_of _ (by decide +kernel)) ggX3_matches_X3_isCamp
set_option maxRecDepth 20000 in
theorem ggX3_matches_X3_alike : GoodIn wsX3_matches wsX3_alike := goodIn_r _ [11, 12, 13, 14, 3, 15, 16, 17, 18, 19, 20, 21, 22, 23, 24, 25, 26, 27, 28, 29, 30, 31, 32, 33, 34, 35, 36, 37, 38, 39, 40, 41] (by decide +kernel) (by decide +kernel)
set_option maxRecDepth 20000 in
theorem gX3_matches_X3_alike : GoodIn wsX3_matches (wsV RX3 121 RX3 yX3_alike wsX3_alike) := goodIn_app (goodIn_of _ (by decide +kernel)) ggX3_matches_X3_alike
theorem dX3_matches_0 : decode cX3_matches 0 = .ok (.iload_n 1, 1) := by decide +kernel
theorem dX3_matches_1 : decode cX3_matches 1 = .ok (.invokestatic 97, 3) := by decide +kernel
theorem dX3_matches_4 : decode cX3_matches 4 = .ok (.ifCond .eq 19, 3) := by decide +kernel
theorem dX3_matches_7 : decode cX3_matches 7 = .ok (.iload_n 2, 1) := by decide +kernel
theorem dX3_matches_8 : decode cX3_matches 8 = .ok (.invokestatic 97, 3) := by decide +kernel
theorem dX3_matches_11 : decode cX3_matches 11 = .ok (.ifCond .eq 12, 3) := by decide +kernel
theorem dX3_matches_14 : decode cX3_matches 14 = .ok (.aload_n 0, 1) := by decide +kernel
theorem dX3_matches_15 : decode cX3_matches 15 = .ok (.iload_n 1, 1) := by decide +kernel
theorem dX3_matches_16 : decode cX3_matches 16 = .ok (.iload_n 2, 1) := by decide +kernel
theorem dX3_matches_17 : decode cX3_matches 17 = .ok (.invokevirtual 121, 3) := by decide +kernel
theorem dX3_matches_20 : decode cX3_matches 20 = .ok (.goto 4, 3) := by decide +kernel
theorem dX3_matches_23 : decode cX3_matches 23 = .ok (.iconst (-1), 1) := by decide +kernel
theorem dX3_matches_24 : decode cX3_matches 24 = .ok (.ireturn, 1) := by decide +kernel
set_option maxRecDepth 20000 in
theorem ggX3_matchesAgain_X3_matches : GoodIn wsX3_matchesAgain wsX3_matches := goodIn_r _ [5, 6, 7, 4, 8, 9, 10, 11, 12, 13, 14, 15, 16, 17, 18, 19, 20, 21, 22, 23, 24, 25, 26, 27, 28, 29, 30, 31, 32, 33, 34, 35, 36, 37, 38, 39, 40, 41, 42, 43, 44, 45] (by decide +kernel) (by decide +kernel)
set_option maxRecDepth 20000 in
theorem gX3_matchesAgain_X3_matches : GoodIn wsX3_matchesAgain (wsV RX3 152 RX3 yX3_matches wsX3_matches) := goodIn_app (goodIn_of _ (by decide +kernel)) ggX3_matchesAgain_X3_matches
theorem dX3_matchesAgain_0 : decode cX3_matchesAgain 0 = .ok (.aload_n 0, 1) := by decide +kernel
theorem dX3_matchesAgain_1 : decode cX3_matchesAgain 1 = .ok (.iload_n 1, 1) := by decide +kernel
theorem dX3_matchesAgain_2 : decode cX3_matchesAgain 2 = .ok (.iload_n 2, 1) := by decide +kernel
theorem dX3_matchesAgain_3 : decode cX3_matchesAgain 3 = .ok (.invokevirtual 152, 3) := by decide +kernel
theorem dX3_matchesAgain_6 : decode cX3_matchesAgain 6 = .ok (.ireturn, 1) := by decide +kernel
set_option maxRecDepth 20000 in
theorem ggX3_captain_X3_of : GoodIn wsX3_captain wsX3_of := goodIn_r _ [5, 6, 7, 8, 9, 10, 11, 12, 13, 14, 15, 16, 17, 18, 19, 20, 21, 22, 23] (by decide +kernel) (by decide +kernel)
set_option maxRecDepth 20000 in
theorem gX3_captain_X3_of : GoodIn wsX3_captain (wsV RX3 52 RX3 yX3_of wsX3_of) := goodIn_app (goodIn_of _ (by decide +kernel)) ggX3_captain_X3_of
theorem dX3_captain_0 : decode cX3_captain 0 = .ok (.bipush (-4), 2) := by decide +kernel
theorem dX3_captain_2 : decode cX3_captain 2 = .ok (.istore_n 1, 1) := by decide +kernel
theorem dX3_captain_3 : decode cX3_captain 3 = .ok (.iconst 0, 1) := by decide +kernel
theorem dX3_captain_4 : decode cX3_captain 4 = .ok (.istore_n 2, 1) := by decide +kernel
theorem dX3_captain_5 : decode cX3_captain 5 = .ok (.iload_n 2, 1) := by decide +kernel
theorem dX3_captain_6 : decode cX3_captain 6 = .ok (.iconst 5, 1) := by decide +kernel
theorem dX3_captain_7 : decode cX3_captain 7 = .ok (.if_icmp .ge 40, 3) := by decide +kernel
theorem dX3_captain_10 : decode cX3_captain 10 = .ok (.aload_n 0, 1) := by decide +kernel
theorem dX3_captain_11 : decode cX3_captain 11 = .ok (.iload_n 2, 1) := by decide +kernel
theorem dX3_captain_12 : decode cX3_captain 12 = .ok (.iconst 2, 1) := by decide +kernel
theorem dX3_captain_13 : decode cX3_captain 13 = .ok (.invokevirtual 52, 3) := by decide +kernel
theorem dX3_captain_16 : decode cX3_captain 16 = .ok (.iconst 1, 1) := by decide +kernel
theorem dX3_captain_17 : decode cX3_captain 17 = .ok (.if_icmp .ne 24, 3) := by decide +kernel
theorem dX3_captain_20 : decode cX3_captain 20 = .ok (.iload_n 1, 1) := by decide +kernel
theorem dX3_captain_21 : decode cX3_captain 21 = .ok (.ifCond .lt 18, 3) := by decide +kernel
theorem dX3_captain_24 : decode cX3_captain 24 = .ok (.aload_n 0, 1) := by decide +kernel
theorem dX3_captain_25 : decode cX3_captain 25 = .ok (.iload_n 2, 1) := by decide +kernel
theorem dX3_captain_26 : decode cX3_captain 26 = .ok (.iconst 0, 1) := by decide +kernel
theorem dX3_captain_27 : decode cX3_captain 27 = .ok (.invokevirtual 52, 3) := by decide +kernel
theorem dX3_captain_30 : decode cX3_captain 30 = .ok (.aload_n 0, 1) := by decide +kernel
theorem dX3_captain_31 : decode cX3_captain 31 = .ok (.iload_n 1, 1) := by decide +kernel
theorem dX3_captain_32 : decode cX3_captain 32 = .ok (.iconst 0, 1) := by decide +kernel
theorem dX3_captain_33 : decode cX3_captain 33 = .ok (.invokevirtual 52, 3) := by decide +kernel
theorem dX3_captain_36 : decode cX3_captain 36 = .ok (.if_icmp .le 5, 3) := by decide +kernel
theorem dX3_captain_39 : decode cX3_captain 39 = .ok (.iload_n 2, 1) := by decide +kernel
theorem dX3_captain_40 : decode cX3_captain 40 = .ok (.istore_n 1, 1) := by decide +kernel
theorem dX3_captain_41 : decode cX3_captain 41 = .ok (.iinc 2 1, 3) := by decide +kernel
theorem dX3_captain_44 : decode cX3_captain 44 = .ok (.goto (-39), 3) := by decide +kernel
theorem dX3_captain_47 : decode cX3_captain 47 = .ok (.iload_n 1, 1) := by decide +kernel
theorem dX3_captain_48 : decode cX3_captain 48 = .ok (.ireturn, 1) := by decide +kernel
set_option maxRecDepth 20000 in
theorem ggX3_holders_X3_isCamp : GoodIn wsX3_holders wsX3_isCamp := goodIn_r _ [4, 5, 6, 3, 7] (by decide +kernel) (by decide +kernel)
set_option maxRecDepth 20000 in
theorem gX3_holders_X3_isCamp : GoodIn wsX3_holders (va_wsS RX3 97 yX3_isCamp wsX3_isCamp) := goodIn_app (goodIn_of _ (by decide +kernel)) ggX3_holders_X3_isCamp
set_option maxRecDepth 20000 in
theorem ggX3_holders_X3_of : GoodIn wsX3_holders wsX3_of := goodIn_r _ [11, 12, 25, 26, 27, 28, 29, 30, 31, 32, 33, 34, 35, 36, 37, 38, 39, 40, 41] (by decide +kernel) (by decide +kernel)
set_option maxRecDepth 20000 in
theorem gX3_holders_X3_of : GoodIn wsX3_holders (wsV RX3 52 RX3 yX3_of wsX3_of) := goodIn_app (goodIn_of _ (by decide +kernel)) ggX3_holders_X3_of
set_option maxRecDepth 20000 in
theorem ggX3_holders_X3_in : GoodIn wsX3_holders wsX3_in := goodIn_r _ [7] (by decide +kernel) (by decide +kernel)
set_option maxRecDepth 20000 in
theorem gX3_holders_X3_in : GoodIn wsX3_holders (va_wsS RX3 48 yX3_in wsX3_in) := goodIn_app (goodIn_of _ (by decide +kernel)) ggX3_holders_X3_in
set_option maxRecDepth 20000 in
theorem ggX3_holders_X3_alike : GoodIn wsX3_holders wsX3_alike := goodIn_r _ [16, 8, 9, 10, 3, 11, 12, 17, 18, 19, 20, 21, 22, 23, 24, 25, 26, 27, 28, 29, 30, 31, 32, 33, 34, 35, 36, 37, 38, 39, 40, 41] (by decide +kernel) (by decide +kernel)
set_option maxRecDepth 20000 in
theorem gX3_holders_X3_alike : GoodIn wsX3_holders (wsV RX3 121 RX3 yX3_alike wsX3_alike) := goodIn_app (goodIn_of _ (by decide +kernel)) ggX3_holders_X3_alike
theorem dX3_holders_0 : decode cX3_holders 0 = .ok (.iload_n 1, 1) := by decide +kernel
theorem dX3_holders_1 : decode cX3_holders 1 = .ok (.invokestatic 97, 3) := by decide +kernel
theorem dX3_holders_4 : decode cX3_holders 4 = .ok (.ifCond .eq 20, 3) := by decide +kernel
theorem dX3_holders_7 : decode cX3_holders 7 = .ok (.iload_n 2, 1) := by decide +kernel
theorem dX3_holders_8 : decode cX3_holders 8 = .ok (.iconst 0, 1) := by decide +kernel
theorem dX3_holders_9 : decode cX3_holders 9 = .ok (.aload_n 0, 1) := by decide +kernel
theorem dX3_holders_10 : decode cX3_holders 10 = .ok (.iload_n 1, 1) := by decide +kernel
theorem dX3_holders_11 : decode cX3_holders 11 = .ok (.bipush 6, 2) := by decide +kernel
theorem dX3_holders_13 : decode cX3_holders 13 = .ok (.invokevirtual 52, 3) := by decide +kernel
theorem dX3_holders_16 : decode cX3_holders 16 = .ok (.iconst 1, 1) := by decide +kernel
theorem dX3_holders_17 : decode cX3_holders 17 = .ok (.isub, 1) := by decide +kernel
theorem dX3_holders_18 : decode cX3_holders 18 = .ok (.invokestatic 48, 3) := by decide +kernel
theorem dX3_holders_21 : decode cX3_holders 21 = .ok (.ifCond .ne 5, 3) := by decide +kernel
theorem dX3_holders_24 : decode cX3_holders 24 = .ok (.iconst (-1), 1) := by decide +kernel
theorem dX3_holders_25 : decode cX3_holders 25 = .ok (.ireturn, 1) := by decide +kernel
theorem dX3_holders_26 : decode cX3_holders 26 = .ok (.iconst 0, 1) := by decide +kernel
theorem dX3_holders_27 : decode cX3_holders 27 = .ok (.istore_n 3, 1) := by decide +kernel
theorem dX3_holders_28 : decode cX3_holders 28 = .ok (.iconst 0, 1) := by decide +kernel
theorem dX3_holders_29 : decode cX3_holders 29 = .ok (.istore 4, 2) := by decide +kernel
theorem dX3_holders_31 : decode cX3_holders 31 = .ok (.iload 4, 2) := by decide +kernel
theorem dX3_holders_33 : decode cX3_holders 33 = .ok (.iconst 5, 1) := by decide +kernel
theorem dX3_holders_34 : decode cX3_holders 34 = .ok (.if_icmp .ge 23, 3) := by decide +kernel
theorem dX3_holders_37 : decode cX3_holders 37 = .ok (.aload_n 0, 1) := by decide +kernel
theorem dX3_holders_38 : decode cX3_holders 38 = .ok (.iload_n 1, 1) := by decide +kernel
theorem dX3_holders_39 : decode cX3_holders 39 = .ok (.iload 4, 2) := by decide +kernel
theorem dX3_holders_41 : decode cX3_holders 41 = .ok (.invokevirtual 121, 3) := by decide +kernel
theorem dX3_holders_44 : decode cX3_holders 44 = .ok (.iload_n 2, 1) := by decide +kernel
theorem dX3_holders_45 : decode cX3_holders 45 = .ok (.if_icmp .le 6, 3) := by decide +kernel
theorem dX3_holders_48 : decode cX3_holders 48 = .ok (.iinc 3 1, 3) := by decide +kernel
theorem dX3_holders_51 : decode cX3_holders 51 = .ok (.iinc 4 1, 3) := by decide +kernel
theorem dX3_holders_54 : decode cX3_holders 54 = .ok (.goto (-23), 3) := by decide +kernel
theorem dX3_holders_57 : decode cX3_holders 57 = .ok (.iload_n 3, 1) := by decide +kernel
theorem dX3_holders_58 : decode cX3_holders 58 = .ok (.ireturn, 1) := by decide +kernel
set_option maxRecDepth 20000 in
theorem ggX3_letters_X3_in : GoodIn wsX3_letters wsX3_in := goodIn_r _ [4] (by decide +kernel) (by decide +kernel)
set_option maxRecDepth 20000 in
theorem gX3_letters_X3_in : GoodIn wsX3_letters (va_wsS RX3 48 yX3_in wsX3_in) := goodIn_app (goodIn_of _ (by decide +kernel)) ggX3_letters_X3_in
set_option maxRecDepth 20000 in
theorem ggX3_letters_X3_of : GoodIn wsX3_letters wsX3_of := goodIn_r _ [8, 9, 14, 15, 16, 17, 18, 19, 20, 21, 22, 23, 24, 25, 26, 27, 28, 29, 30] (by decide +kernel) (by decide +kernel)
set_option maxRecDepth 20000 in
theorem gX3_letters_X3_of : GoodIn wsX3_letters (wsV RX3 52 RX3 yX3_of wsX3_of) := goodIn_app (goodIn_of _ (by decide +kernel)) ggX3_letters_X3_of
set_option maxRecDepth 20000 in
theorem ggX3_letters_X3_page : GoodIn wsX3_letters wsX3_page := goodIn_r _ [13, 5, 6, 7, 3, 8, 9, 14, 15, 16, 17, 18, 19, 20, 21, 22, 23, 24, 25, 26, 27, 28, 29, 30] (by decide +kernel) (by decide +kernel)
set_option maxRecDepth 20000 in
theorem gX3_letters_X3_page : GoodIn wsX3_letters (wsV RX3 71 RX3 yX3_page wsX3_page) := goodIn_app (goodIn_of _ (by decide +kernel)) ggX3_letters_X3_page
theorem dX3_letters_0 : decode cX3_letters 0 = .ok (.iload_n 1, 1) := by decide +kernel
theorem dX3_letters_1 : decode cX3_letters 1 = .ok (.iconst 0, 1) := by decide +kernel
theorem dX3_letters_2 : decode cX3_letters 2 = .ok (.iconst 3, 1) := by decide +kernel
theorem dX3_letters_3 : decode cX3_letters 3 = .ok (.invokestatic 48, 3) := by decide +kernel
theorem dX3_letters_6 : decode cX3_letters 6 = .ok (.ifCond .ne 5, 3) := by decide +kernel
theorem dX3_letters_9 : decode cX3_letters 9 = .ok (.iconst (-1), 1) := by decide +kernel
theorem dX3_letters_10 : decode cX3_letters 10 = .ok (.ireturn, 1) := by decide +kernel
theorem dX3_letters_11 : decode cX3_letters 11 = .ok (.iconst 0, 1) := by decide +kernel
theorem dX3_letters_12 : decode cX3_letters 12 = .ok (.istore_n 2, 1) := by decide +kernel
theorem dX3_letters_13 : decode cX3_letters 13 = .ok (.iconst 1, 1) := by decide +kernel
theorem dX3_letters_14 : decode cX3_letters 14 = .ok (.istore_n 3, 1) := by decide +kernel
theorem dX3_letters_15 : decode cX3_letters 15 = .ok (.iload_n 3, 1) := by decide +kernel
theorem dX3_letters_16 : decode cX3_letters 16 = .ok (.iconst 5, 1) := by decide +kernel
theorem dX3_letters_17 : decode cX3_letters 17 = .ok (.if_icmp .ge 26, 3) := by decide +kernel
theorem dX3_letters_20 : decode cX3_letters 20 = .ok (.aload_n 0, 1) := by decide +kernel
theorem dX3_letters_21 : decode cX3_letters 21 = .ok (.iload_n 3, 1) := by decide +kernel
theorem dX3_letters_22 : decode cX3_letters 22 = .ok (.iconst 5, 1) := by decide +kernel
theorem dX3_letters_23 : decode cX3_letters 23 = .ok (.invokevirtual 52, 3) := by decide +kernel
theorem dX3_letters_26 : decode cX3_letters 26 = .ok (.aload_n 0, 1) := by decide +kernel
theorem dX3_letters_27 : decode cX3_letters 27 = .ok (.iload_n 2, 1) := by decide +kernel
theorem dX3_letters_28 : decode cX3_letters 28 = .ok (.iconst 5, 1) := by decide +kernel
theorem dX3_letters_29 : decode cX3_letters 29 = .ok (.invokevirtual 52, 3) := by decide +kernel
theorem dX3_letters_32 : decode cX3_letters 32 = .ok (.if_icmp .le 5, 3) := by decide +kernel
theorem dX3_letters_35 : decode cX3_letters 35 = .ok (.iload_n 3, 1) := by decide +kernel
theorem dX3_letters_36 : decode cX3_letters 36 = .ok (.istore_n 2, 1) := by decide +kernel
theorem dX3_letters_37 : decode cX3_letters 37 = .ok (.iinc 3 1, 3) := by decide +kernel
theorem dX3_letters_40 : decode cX3_letters 40 = .ok (.goto (-25), 3) := by decide +kernel
theorem dX3_letters_43 : decode cX3_letters 43 = .ok (.iconst 0, 1) := by decide +kernel
theorem dX3_letters_44 : decode cX3_letters 44 = .ok (.istore_n 3, 1) := by decide +kernel
theorem dX3_letters_45 : decode cX3_letters 45 = .ok (.iconst 0, 1) := by decide +kernel
theorem dX3_letters_46 : decode cX3_letters 46 = .ok (.istore 4, 2) := by decide +kernel
theorem dX3_letters_48 : decode cX3_letters 48 = .ok (.iload 4, 2) := by decide +kernel
theorem dX3_letters_50 : decode cX3_letters 50 = .ok (.aload_n 0, 1) := by decide +kernel
theorem dX3_letters_51 : decode cX3_letters 51 = .ok (.iload_n 2, 1) := by decide +kernel
theorem dX3_letters_52 : decode cX3_letters 52 = .ok (.iconst 5, 1) := by decide +kernel
theorem dX3_letters_53 : decode cX3_letters 53 = .ok (.invokevirtual 52, 3) := by decide +kernel
theorem dX3_letters_56 : decode cX3_letters 56 = .ok (.if_icmp .ge 24, 3) := by decide +kernel
theorem dX3_letters_59 : decode cX3_letters 59 = .ok (.aload_n 0, 1) := by decide +kernel
theorem dX3_letters_60 : decode cX3_letters 60 = .ok (.iload_n 2, 1) := by decide +kernel
theorem dX3_letters_61 : decode cX3_letters 61 = .ok (.iload 4, 2) := by decide +kernel
theorem dX3_letters_63 : decode cX3_letters 63 = .ok (.iconst 1, 1) := by decide +kernel
theorem dX3_letters_64 : decode cX3_letters 64 = .ok (.invokevirtual 71, 3) := by decide +kernel
theorem dX3_letters_67 : decode cX3_letters 67 = .ok (.iload_n 1, 1) := by decide +kernel
theorem dX3_letters_68 : decode cX3_letters 68 = .ok (.if_icmp .ne 6, 3) := by decide +kernel
theorem dX3_letters_71 : decode cX3_letters 71 = .ok (.iinc 3 1, 3) := by decide +kernel
theorem dX3_letters_74 : decode cX3_letters 74 = .ok (.iinc 4 1, 3) := by decide +kernel
theorem dX3_letters_77 : decode cX3_letters 77 = .ok (.goto (-29), 3) := by decide +kernel
theorem dX3_letters_80 : decode cX3_letters 80 = .ok (.iload_n 3, 1) := by decide +kernel
theorem dX3_letters_81 : decode cX3_letters 81 = .ok (.ireturn, 1) := by decide +kernel
theorem dX3_remembers_0 : decode cX3_remembers 0 = .ok (.iconst 0, 1) := by decide +kernel
theorem dX3_remembers_1 : decode cX3_remembers 1 = .ok (.istore_n 1, 1) := by decide +kernel
theorem dX3_remembers_2 : decode cX3_remembers 2 = .ok (.iload_n 1, 1) := by decide +kernel
theorem dX3_remembers_3 : decode cX3_remembers 3 = .ok (.sipush 186, 3) := by decide +kernel
theorem dX3_remembers_6 : decode cX3_remembers 6 = .ok (.if_icmp .ge 21, 3) := by decide +kernel
theorem dX3_remembers_9 : decode cX3_remembers 9 = .ok (.aload_n 0, 1) := by decide +kernel
theorem dX3_remembers_10 : decode cX3_remembers 10 = .ok (.getfield 16, 3) := by decide +kernel
theorem dX3_remembers_13 : decode cX3_remembers 13 = .ok (.iload_n 1, 1) := by decide +kernel
theorem dX3_remembers_14 : decode cX3_remembers 14 = .ok (.aload_n 0, 1) := by decide +kernel
theorem dX3_remembers_15 : decode cX3_remembers 15 = .ok (.getfield 9, 3) := by decide +kernel
theorem dX3_remembers_18 : decode cX3_remembers 18 = .ok (.iload_n 1, 1) := by decide +kernel
theorem dX3_remembers_19 : decode cX3_remembers 19 = .ok (.iaload, 1) := by decide +kernel
theorem dX3_remembers_20 : decode cX3_remembers 20 = .ok (.iastore, 1) := by decide +kernel
theorem dX3_remembers_21 : decode cX3_remembers 21 = .ok (.iinc 1 1, 3) := by decide +kernel
theorem dX3_remembers_24 : decode cX3_remembers 24 = .ok (.goto (-22), 3) := by decide +kernel
theorem dX3_remembers_27 : decode cX3_remembers 27 = .ok (.return_, 1) := by decide +kernel
theorem dX3_forgets_0 : decode cX3_forgets 0 = .ok (.iconst 0, 1) := by decide +kernel
theorem dX3_forgets_1 : decode cX3_forgets 1 = .ok (.istore_n 1, 1) := by decide +kernel
theorem dX3_forgets_2 : decode cX3_forgets 2 = .ok (.iload_n 1, 1) := by decide +kernel
theorem dX3_forgets_3 : decode cX3_forgets 3 = .ok (.sipush 186, 3) := by decide +kernel
theorem dX3_forgets_6 : decode cX3_forgets 6 = .ok (.if_icmp .ge 21, 3) := by decide +kernel
theorem dX3_forgets_9 : decode cX3_forgets 9 = .ok (.aload_n 0, 1) := by decide +kernel
theorem dX3_forgets_10 : decode cX3_forgets 10 = .ok (.getfield 9, 3) := by decide +kernel
theorem dX3_forgets_13 : decode cX3_forgets 13 = .ok (.iload_n 1, 1) := by decide +kernel
theorem dX3_forgets_14 : decode cX3_forgets 14 = .ok (.aload_n 0, 1) := by decide +kernel
theorem dX3_forgets_15 : decode cX3_forgets 15 = .ok (.getfield 16, 3) := by decide +kernel
theorem dX3_forgets_18 : decode cX3_forgets 18 = .ok (.iload_n 1, 1) := by decide +kernel
theorem dX3_forgets_19 : decode cX3_forgets 19 = .ok (.iaload, 1) := by decide +kernel
theorem dX3_forgets_20 : decode cX3_forgets 20 = .ok (.iastore, 1) := by decide +kernel
theorem dX3_forgets_21 : decode cX3_forgets 21 = .ok (.iinc 1 1, 3) := by decide +kernel
theorem dX3_forgets_24 : decode cX3_forgets 24 = .ok (.goto (-22), 3) := by decide +kernel
theorem dX3_forgets_27 : decode cX3_forgets 27 = .ok (.return_, 1) := by decide +kernel
set_option maxRecDepth 20000 in
theorem ggX3_would_X3_isCamp : GoodIn wsX3_would wsX3_isCamp := goodIn_r _ [4, 5, 6, 3, 7] (by decide +kernel) (by decide +kernel)
set_option maxRecDepth 20000 in
theorem gX3_would_X3_isCamp : GoodIn wsX3_would (va_wsS RX3 97 yX3_isCamp wsX3_isCamp) := goodIn_app (goodIn_of _ (by decide +kernel)) ggX3_would_X3_isCamp
set_option maxRecDepth 20000 in
theorem ggX3_would_X3_isAwake : GoodIn wsX3_would wsX3_isAwake := goodIn_r _ [11, 12, 13, 14, 3, 15, 16, 64, 65, 66, 67, 68, 69, 70, 71, 72, 73, 74, 75, 76, 77, 78, 79, 80] (by decide +kernel) (by decide +kernel)
set_option maxRecDepth 20000 in
theorem gX3_would_X3_isAwake : GoodIn wsX3_would (wsV RX3 64 RX3 yX3_isAwake wsX3_isAwake) := goodIn_app (goodIn_of _ (by decide +kernel)) ggX3_would_X3_isAwake
set_option maxRecDepth 20000 in
theorem ggX3_would_X3_of : GoodIn wsX3_would wsX3_of := goodIn_r _ [15, 16, 64, 65, 66, 67, 68, 69, 70, 71, 72, 73, 74, 75, 76, 77, 78, 79, 80] (by decide +kernel) (by decide +kernel)
set_option maxRecDepth 20000 in
theorem gX3_would_X3_of : GoodIn wsX3_would (wsV RX3 52 RX3 yX3_of wsX3_of) := goodIn_app (goodIn_of _ (by decide +kernel)) ggX3_would_X3_of
set_option maxRecDepth 20000 in
theorem ggX3_would_X3_remembers : GoodIn wsX3_would wsX3_remembers := goodIn_r _ [20, 21, 16, 64, 65, 66, 67, 68, 69, 70, 71, 72, 73, 74, 75, 76, 77, 78, 79, 80] (by decide +kernel) (by decide +kernel)
set_option maxRecDepth 20000 in
theorem gX3_would_X3_remembers : GoodIn wsX3_would (wsV RX3 155 RX3 yX3_remembers wsX3_remembers) := goodIn_app (goodIn_of _ (by decide +kernel)) ggX3_would_X3_remembers
set_option maxRecDepth 20000 in
theorem ggX3_would_X3_asks : GoodIn wsX3_would wsX3_asks := goodIn_r _ [25, 16, 12, 13, 14, 3, 15, 26, 27, 28, 29, 30, 31, 32, 33, 8, 9, 10, 11, 34, 35, 36, 37, 38, 39, 40, 41, 42, 43, 44, 45, 46, 47, 48, 49, 50, 51, 52, 53, 54, 55, 56, 57, 58, 59, 64, 65, 66, 67, 68, 69, 70, 71, 72, 73, 74, 75, 76, 77, 78, 79, 80] (by decide +kernel) (by decide +kernel)
set_option maxRecDepth 20000 in
theorem gX3_would_X3_asks : GoodIn wsX3_would (wsV RX3 103 RX3 yX3_asks wsX3_asks) := goodIn_app (goodIn_of _ (by decide +kernel)) ggX3_would_X3_asks
set_option maxRecDepth 20000 in
theorem ggX3_would_X3_forgets : GoodIn wsX3_would wsX3_forgets := goodIn_r _ [63, 16, 21, 64, 65, 66, 67, 68, 69, 70, 71, 72, 73, 74, 75, 76, 77, 78, 79, 80] (by decide +kernel) (by decide +kernel)
set_option maxRecDepth 20000 in
theorem gX3_would_X3_forgets : GoodIn wsX3_would (wsV RX3 158 RX3 yX3_forgets wsX3_forgets) := goodIn_app (goodIn_of _ (by decide +kernel)) ggX3_would_X3_forgets
theorem dX3_would_0 : decode cX3_would 0 = .ok (.iload_n 1, 1) := by decide +kernel
theorem dX3_would_1 : decode cX3_would 1 = .ok (.invokestatic 97, 3) := by decide +kernel
theorem dX3_would_4 : decode cX3_would 4 = .ok (.ifCond .ne 5, 3) := by decide +kernel
theorem dX3_would_7 : decode cX3_would 7 = .ok (.iconst (-1), 1) := by decide +kernel
theorem dX3_would_8 : decode cX3_would 8 = .ok (.ireturn, 1) := by decide +kernel
theorem dX3_would_9 : decode cX3_would 9 = .ok (.aload_n 0, 1) := by decide +kernel
theorem dX3_would_10 : decode cX3_would 10 = .ok (.iload_n 1, 1) := by decide +kernel
theorem dX3_would_11 : decode cX3_would 11 = .ok (.invokevirtual 64, 3) := by decide +kernel
theorem dX3_would_14 : decode cX3_would 14 = .ok (.ifCond .eq 13, 3) := by decide +kernel
theorem dX3_would_17 : decode cX3_would 17 = .ok (.aload_n 0, 1) := by decide +kernel
theorem dX3_would_18 : decode cX3_would 18 = .ok (.iload_n 1, 1) := by decide +kernel
theorem dX3_would_19 : decode cX3_would 19 = .ok (.iconst 2, 1) := by decide +kernel
theorem dX3_would_20 : decode cX3_would 20 = .ok (.invokevirtual 52, 3) := by decide +kernel
theorem dX3_would_23 : decode cX3_would 23 = .ok (.iconst 1, 1) := by decide +kernel
theorem dX3_would_24 : decode cX3_would 24 = .ok (.if_icmp .ne 6, 3) := by decide +kernel
theorem dX3_would_27 : decode cX3_would 27 = .ok (.bipush (-4), 2) := by decide +kernel
theorem dX3_would_29 : decode cX3_would 29 = .ok (.ireturn, 1) := by decide +kernel
theorem dX3_would_30 : decode cX3_would 30 = .ok (.aload_n 0, 1) := by decide +kernel
theorem dX3_would_31 : decode cX3_would 31 = .ok (.invokevirtual 155, 3) := by decide +kernel
theorem dX3_would_34 : decode cX3_would 34 = .ok (.aload_n 0, 1) := by decide +kernel
theorem dX3_would_35 : decode cX3_would 35 = .ok (.iload_n 1, 1) := by decide +kernel
theorem dX3_would_36 : decode cX3_would 36 = .ok (.invokevirtual 103, 3) := by decide +kernel
theorem dX3_would_39 : decode cX3_would 39 = .ok (.istore_n 2, 1) := by decide +kernel
theorem dX3_would_40 : decode cX3_would 40 = .ok (.aload_n 0, 1) := by decide +kernel
theorem dX3_would_41 : decode cX3_would 41 = .ok (.invokevirtual 158, 3) := by decide +kernel
theorem dX3_would_44 : decode cX3_would 44 = .ok (.iload_n 2, 1) := by decide +kernel
theorem dX3_would_45 : decode cX3_would 45 = .ok (.ireturn, 1) := by decide +kernel
set_option maxRecDepth 20000 in
theorem ggX3_hasCaptain_X3_isAwake : GoodIn wsX3_hasCaptain wsX3_isAwake := goodIn_r _ [9, 10, 11, 12, 8, 13, 14, 15, 16, 17, 18, 19, 20, 21, 22, 23, 24, 25, 26, 27, 28, 29, 30, 31] (by decide +kernel) (by decide +kernel)
set_option maxRecDepth 20000 in
theorem gX3_hasCaptain_X3_isAwake : GoodIn wsX3_hasCaptain (wsV RX3 64 RX3 yX3_isAwake wsX3_isAwake) := goodIn_app (goodIn_of _ (by decide +kernel)) ggX3_hasCaptain_X3_isAwake
set_option maxRecDepth 20000 in
theorem ggX3_hasCaptain_X3_of : GoodIn wsX3_hasCaptain wsX3_of := goodIn_r _ [13, 14, 15, 16, 17, 18, 19, 20, 21, 22, 23, 24, 25, 26, 27, 28, 29, 30, 31] (by decide +kernel) (by decide +kernel)
set_option maxRecDepth 20000 in
theorem gX3_hasCaptain_X3_of : GoodIn wsX3_hasCaptain (wsV RX3 52 RX3 yX3_of wsX3_of) := goodIn_app (goodIn_of _ (by decide +kernel)) ggX3_hasCaptain_X3_of
theorem dX3_hasCaptain_0 : decode cX3_hasCaptain 0 = .ok (.iconst 0, 1) := by decide +kernel
theorem dX3_hasCaptain_1 : decode cX3_hasCaptain 1 = .ok (.istore_n 1, 1) := by decide +kernel
theorem dX3_hasCaptain_2 : decode cX3_hasCaptain 2 = .ok (.iconst 0, 1) := by decide +kernel
theorem dX3_hasCaptain_3 : decode cX3_hasCaptain 3 = .ok (.istore_n 2, 1) := by decide +kernel
theorem dX3_hasCaptain_4 : decode cX3_hasCaptain 4 = .ok (.iload_n 2, 1) := by decide +kernel
theorem dX3_hasCaptain_5 : decode cX3_hasCaptain 5 = .ok (.iconst 5, 1) := by decide +kernel
theorem dX3_hasCaptain_6 : decode cX3_hasCaptain 6 = .ok (.if_icmp .ge 28, 3) := by decide +kernel
theorem dX3_hasCaptain_9 : decode cX3_hasCaptain 9 = .ok (.aload_n 0, 1) := by decide +kernel
theorem dX3_hasCaptain_10 : decode cX3_hasCaptain 10 = .ok (.iload_n 2, 1) := by decide +kernel
theorem dX3_hasCaptain_11 : decode cX3_hasCaptain 11 = .ok (.invokevirtual 64, 3) := by decide +kernel
theorem dX3_hasCaptain_14 : decode cX3_hasCaptain 14 = .ok (.ifCond .eq 14, 3) := by decide +kernel
theorem dX3_hasCaptain_17 : decode cX3_hasCaptain 17 = .ok (.iload_n 1, 1) := by decide +kernel
theorem dX3_hasCaptain_18 : decode cX3_hasCaptain 18 = .ok (.aload_n 0, 1) := by decide +kernel
theorem dX3_hasCaptain_19 : decode cX3_hasCaptain 19 = .ok (.iload_n 2, 1) := by decide +kernel
theorem dX3_hasCaptain_20 : decode cX3_hasCaptain 20 = .ok (.iconst 0, 1) := by decide +kernel
theorem dX3_hasCaptain_21 : decode cX3_hasCaptain 21 = .ok (.invokevirtual 52, 3) := by decide +kernel
theorem dX3_hasCaptain_24 : decode cX3_hasCaptain 24 = .ok (.invokestatic 61, 3) := by decide +kernel
theorem dX3_hasCaptain_27 : decode cX3_hasCaptain 27 = .ok (.istore_n 1, 1) := by decide +kernel
theorem dX3_hasCaptain_28 : decode cX3_hasCaptain 28 = .ok (.iinc 2 1, 3) := by decide +kernel
theorem dX3_hasCaptain_31 : decode cX3_hasCaptain 31 = .ok (.goto (-27), 3) := by decide +kernel
theorem dX3_hasCaptain_34 : decode cX3_hasCaptain 34 = .ok (.iconst 0, 1) := by decide +kernel
theorem dX3_hasCaptain_35 : decode cX3_hasCaptain 35 = .ok (.istore_n 2, 1) := by decide +kernel
theorem dX3_hasCaptain_36 : decode cX3_hasCaptain 36 = .ok (.iload_n 2, 1) := by decide +kernel
theorem dX3_hasCaptain_37 : decode cX3_hasCaptain 37 = .ok (.iconst 5, 1) := by decide +kernel
theorem dX3_hasCaptain_38 : decode cX3_hasCaptain 38 = .ok (.if_icmp .ge 31, 3) := by decide +kernel
theorem dX3_hasCaptain_41 : decode cX3_hasCaptain 41 = .ok (.aload_n 0, 1) := by decide +kernel
theorem dX3_hasCaptain_42 : decode cX3_hasCaptain 42 = .ok (.iload_n 2, 1) := by decide +kernel
theorem dX3_hasCaptain_43 : decode cX3_hasCaptain 43 = .ok (.iconst 2, 1) := by decide +kernel
theorem dX3_hasCaptain_44 : decode cX3_hasCaptain 44 = .ok (.invokevirtual 52, 3) := by decide +kernel
theorem dX3_hasCaptain_47 : decode cX3_hasCaptain 47 = .ok (.iconst 1, 1) := by decide +kernel
theorem dX3_hasCaptain_48 : decode cX3_hasCaptain 48 = .ok (.if_icmp .ne 15, 3) := by decide +kernel
theorem dX3_hasCaptain_51 : decode cX3_hasCaptain 51 = .ok (.aload_n 0, 1) := by decide +kernel
theorem dX3_hasCaptain_52 : decode cX3_hasCaptain 52 = .ok (.iload_n 2, 1) := by decide +kernel
theorem dX3_hasCaptain_53 : decode cX3_hasCaptain 53 = .ok (.iconst 0, 1) := by decide +kernel
theorem dX3_hasCaptain_54 : decode cX3_hasCaptain 54 = .ok (.invokevirtual 52, 3) := by decide +kernel
theorem dX3_hasCaptain_57 : decode cX3_hasCaptain 57 = .ok (.iload_n 1, 1) := by decide +kernel
theorem dX3_hasCaptain_58 : decode cX3_hasCaptain 58 = .ok (.if_icmp .ne 5, 3) := by decide +kernel
theorem dX3_hasCaptain_61 : decode cX3_hasCaptain 61 = .ok (.iconst 1, 1) := by decide +kernel
theorem dX3_hasCaptain_62 : decode cX3_hasCaptain 62 = .ok (.ireturn, 1) := by decide +kernel
theorem dX3_hasCaptain_63 : decode cX3_hasCaptain 63 = .ok (.iinc 2 1, 3) := by decide +kernel
theorem dX3_hasCaptain_66 : decode cX3_hasCaptain 66 = .ok (.goto (-30), 3) := by decide +kernel
theorem dX3_hasCaptain_69 : decode cX3_hasCaptain 69 = .ok (.iconst 0, 1) := by decide +kernel
theorem dX3_hasCaptain_70 : decode cX3_hasCaptain 70 = .ok (.ireturn, 1) := by decide +kernel
set_option maxRecDepth 20000 in
theorem ggX3_captainIn_X3_remembers : GoodIn wsX3_captainIn wsX3_remembers := goodIn_r _ [5, 6, 7, 82, 83, 84, 85, 86, 87, 88, 89, 90, 91, 92, 93, 94, 95, 96, 97, 98] (by decide +kernel) (by decide +kernel)
set_option maxRecDepth 20000 in
theorem gX3_captainIn_X3_remembers : GoodIn wsX3_captainIn (wsV RX3 155 RX3 yX3_remembers wsX3_remembers) := goodIn_app (goodIn_of _ (by decide +kernel)) ggX3_captainIn_X3_remembers
set_option maxRecDepth 20000 in
theorem ggX3_captainIn_X3_hasCaptain : GoodIn wsX3_captainIn wsX3_hasCaptain := goodIn_r _ [11, 12, 13, 14, 15, 16, 17, 18, 4, 19, 20, 21, 22, 23, 7, 82, 83, 84, 85, 86, 87, 88, 89, 90, 91, 92, 93, 94, 95, 96, 97, 98] (by decide +kernel) (by decide +kernel)
set_option maxRecDepth 20000 in
theorem gX3_captainIn_X3_hasCaptain : GoodIn wsX3_captainIn (wsV RX3 161 RX3 yX3_hasCaptain wsX3_hasCaptain) := goodIn_app (goodIn_of _ (by decide +kernel)) ggX3_captainIn_X3_hasCaptain
set_option maxRecDepth 20000 in
theorem ggX3_captainIn_X3_hour : GoodIn wsX3_captainIn wsX3_hour := goodIn_r _ [27, 7, 16, 17, 18, 4, 19, 20, 21, 22, 23, 28, 29, 30, 31, 12, 13, 14, 15, 32, 33, 34, 35, 36, 37, 38, 39, 40, 41, 42, 43, 44, 45, 46, 47, 48, 49, 50, 51, 52, 53, 54, 55, 56, 57, 58, 59, 60, 61, 62, 63, 64, 65, 66, 67, 68, 69, 70, 71, 72, 73, 74, 75, 76, 77, 82, 83, 84, 85, 86, 87, 88, 89, 90, 91, 92, 93, 94, 95, 96, 97, 98] (by decide +kernel) (by decide +kernel)
set_option maxRecDepth 20000 in
theorem gX3_captainIn_X3_hour : GoodIn wsX3_captainIn (wsV RX3 146 RX3 yX3_hour wsX3_hour) := goodIn_app (goodIn_of _ (by decide +kernel)) ggX3_captainIn_X3_hour
set_option maxRecDepth 20000 in
theorem ggX3_captainIn_X3_forgets : GoodIn wsX3_captainIn wsX3_forgets := goodIn_r _ [81, 7, 6, 82, 83, 84, 85, 86, 87, 88, 89, 90, 91, 92, 93, 94, 95, 96, 97, 98] (by decide +kernel) (by decide +kernel)
set_option maxRecDepth 20000 in
theorem gX3_captainIn_X3_forgets : GoodIn wsX3_captainIn (wsV RX3 158 RX3 yX3_forgets wsX3_forgets) := goodIn_app (goodIn_of _ (by decide +kernel)) ggX3_captainIn_X3_forgets
theorem dX3_captainIn_0 : decode cX3_captainIn 0 = .ok (.aload_n 0, 1) := by decide +kernel
theorem dX3_captainIn_1 : decode cX3_captainIn 1 = .ok (.invokevirtual 155, 3) := by decide +kernel
theorem dX3_captainIn_4 : decode cX3_captainIn 4 = .ok (.iconst 0, 1) := by decide +kernel
theorem dX3_captainIn_5 : decode cX3_captainIn 5 = .ok (.istore_n 1, 1) := by decide +kernel
theorem dX3_captainIn_6 : decode cX3_captainIn 6 = .ok (.aload_n 0, 1) := by decide +kernel
theorem dX3_captainIn_7 : decode cX3_captainIn 7 = .ok (.invokevirtual 161, 3) := by decide +kernel
theorem dX3_captainIn_10 : decode cX3_captainIn 10 = .ok (.ifCond .ne 19, 3) := by decide +kernel
theorem dX3_captainIn_13 : decode cX3_captainIn 13 = .ok (.iload_n 1, 1) := by decide +kernel
theorem dX3_captainIn_14 : decode cX3_captainIn 14 = .ok (.bipush 61, 2) := by decide +kernel
theorem dX3_captainIn_16 : decode cX3_captainIn 16 = .ok (.if_icmp .ge 13, 3) := by decide +kernel
theorem dX3_captainIn_19 : decode cX3_captainIn 19 = .ok (.aload_n 0, 1) := by decide +kernel
theorem dX3_captainIn_20 : decode cX3_captainIn 20 = .ok (.invokevirtual 146, 3) := by decide +kernel
theorem dX3_captainIn_23 : decode cX3_captainIn 23 = .ok (.iinc 1 1, 3) := by decide +kernel
theorem dX3_captainIn_26 : decode cX3_captainIn 26 = .ok (.goto (-20), 3) := by decide +kernel
theorem dX3_captainIn_29 : decode cX3_captainIn 29 = .ok (.aload_n 0, 1) := by decide +kernel
theorem dX3_captainIn_30 : decode cX3_captainIn 30 = .ok (.invokevirtual 158, 3) := by decide +kernel
theorem dX3_captainIn_33 : decode cX3_captainIn 33 = .ok (.iload_n 1, 1) := by decide +kernel
theorem dX3_captainIn_34 : decode cX3_captainIn 34 = .ok (.bipush 60, 2) := by decide +kernel
theorem dX3_captainIn_36 : decode cX3_captainIn 36 = .ok (.if_icmp .le 8, 3) := by decide +kernel
theorem dX3_captainIn_39 : decode cX3_captainIn 39 = .ok (.bipush (-4), 2) := by decide +kernel
theorem dX3_captainIn_41 : decode cX3_captainIn 41 = .ok (.goto 4, 3) := by decide +kernel
theorem dX3_captainIn_44 : decode cX3_captainIn 44 = .ok (.iload_n 1, 1) := by decide +kernel
theorem dX3_captainIn_45 : decode cX3_captainIn 45 = .ok (.ireturn, 1) := by decide +kernel
set_option maxRecDepth 20000 in
theorem ggX3_isAhead_X3_lastTerm : GoodIn wsX3_isAhead wsX3_lastTerm := goodIn_r _ [5, 6, 7, 8, 4, 9, 10, 11, 12, 13, 14, 15, 16, 17, 18, 19, 20, 21, 22, 23, 24, 25, 26, 27, 28, 29, 30, 31] (by decide +kernel) (by decide +kernel)
set_option maxRecDepth 20000 in
theorem gX3_isAhead_X3_lastTerm : GoodIn wsX3_isAhead (wsV RX3 75 RX3 yX3_lastTerm wsX3_lastTerm) := goodIn_app (goodIn_of _ (by decide +kernel)) ggX3_isAhead_X3_lastTerm
set_option maxRecDepth 20000 in
theorem ggX3_isAhead_X3_of : GoodIn wsX3_isAhead wsX3_of := goodIn_r _ [9, 10, 15, 16, 17, 18, 19, 20, 21, 22, 23, 24, 25, 26, 27, 28, 29, 30, 31] (by decide +kernel) (by decide +kernel)
set_option maxRecDepth 20000 in
theorem gX3_isAhead_X3_of : GoodIn wsX3_isAhead (wsV RX3 52 RX3 yX3_of wsX3_of) := goodIn_app (goodIn_of _ (by decide +kernel)) ggX3_isAhead_X3_of
theorem dX3_isAhead_0 : decode cX3_isAhead 0 = .ok (.aload_n 0, 1) := by decide +kernel
theorem dX3_isAhead_1 : decode cX3_isAhead 1 = .ok (.iload_n 1, 1) := by decide +kernel
theorem dX3_isAhead_2 : decode cX3_isAhead 2 = .ok (.invokevirtual 75, 3) := by decide +kernel
theorem dX3_isAhead_5 : decode cX3_isAhead 5 = .ok (.aload_n 0, 1) := by decide +kernel
theorem dX3_isAhead_6 : decode cX3_isAhead 6 = .ok (.iload_n 2, 1) := by decide +kernel
theorem dX3_isAhead_7 : decode cX3_isAhead 7 = .ok (.invokevirtual 75, 3) := by decide +kernel
theorem dX3_isAhead_10 : decode cX3_isAhead 10 = .ok (.isub, 1) := by decide +kernel
theorem dX3_isAhead_11 : decode cX3_isAhead 11 = .ok (.istore_n 3, 1) := by decide +kernel
theorem dX3_isAhead_12 : decode cX3_isAhead 12 = .ok (.iload_n 3, 1) := by decide +kernel
theorem dX3_isAhead_13 : decode cX3_isAhead 13 = .ok (.ifCond .ne 19, 3) := by decide +kernel
theorem dX3_isAhead_16 : decode cX3_isAhead 16 = .ok (.aload_n 0, 1) := by decide +kernel
theorem dX3_isAhead_17 : decode cX3_isAhead 17 = .ok (.iload_n 1, 1) := by decide +kernel
theorem dX3_isAhead_18 : decode cX3_isAhead 18 = .ok (.bipush 6, 2) := by decide +kernel
theorem dX3_isAhead_20 : decode cX3_isAhead 20 = .ok (.invokevirtual 52, 3) := by decide +kernel
theorem dX3_isAhead_23 : decode cX3_isAhead 23 = .ok (.aload_n 0, 1) := by decide +kernel
theorem dX3_isAhead_24 : decode cX3_isAhead 24 = .ok (.iload_n 2, 1) := by decide +kernel
theorem dX3_isAhead_25 : decode cX3_isAhead 25 = .ok (.bipush 6, 2) := by decide +kernel
theorem dX3_isAhead_27 : decode cX3_isAhead 27 = .ok (.invokevirtual 52, 3) := by decide +kernel
theorem dX3_isAhead_30 : decode cX3_isAhead 30 = .ok (.isub, 1) := by decide +kernel
theorem dX3_isAhead_31 : decode cX3_isAhead 31 = .ok (.istore_n 3, 1) := by decide +kernel
theorem dX3_isAhead_32 : decode cX3_isAhead 32 = .ok (.iload_n 3, 1) := by decide +kernel
theorem dX3_isAhead_33 : decode cX3_isAhead 33 = .ok (.ifCond .ne 17, 3) := by decide +kernel
theorem dX3_isAhead_36 : decode cX3_isAhead 36 = .ok (.aload_n 0, 1) := by decide +kernel
theorem dX3_isAhead_37 : decode cX3_isAhead 37 = .ok (.iload_n 1, 1) := by decide +kernel
theorem dX3_isAhead_38 : decode cX3_isAhead 38 = .ok (.iconst 5, 1) := by decide +kernel
theorem dX3_isAhead_39 : decode cX3_isAhead 39 = .ok (.invokevirtual 52, 3) := by decide +kernel
theorem dX3_isAhead_42 : decode cX3_isAhead 42 = .ok (.aload_n 0, 1) := by decide +kernel
theorem dX3_isAhead_43 : decode cX3_isAhead 43 = .ok (.iload_n 2, 1) := by decide +kernel
theorem dX3_isAhead_44 : decode cX3_isAhead 44 = .ok (.iconst 5, 1) := by decide +kernel
theorem dX3_isAhead_45 : decode cX3_isAhead 45 = .ok (.invokevirtual 52, 3) := by decide +kernel
theorem dX3_isAhead_48 : decode cX3_isAhead 48 = .ok (.isub, 1) := by decide +kernel
theorem dX3_isAhead_49 : decode cX3_isAhead 49 = .ok (.istore_n 3, 1) := by decide +kernel
theorem dX3_isAhead_50 : decode cX3_isAhead 50 = .ok (.iload_n 3, 1) := by decide +kernel
theorem dX3_isAhead_51 : decode cX3_isAhead 51 = .ok (.ifCond .gt 12, 3) := by decide +kernel
theorem dX3_isAhead_54 : decode cX3_isAhead 54 = .ok (.iload_n 3, 1) := by decide +kernel
theorem dX3_isAhead_55 : decode cX3_isAhead 55 = .ok (.ifCond .ne 12, 3) := by decide +kernel
theorem dX3_isAhead_58 : decode cX3_isAhead 58 = .ok (.iload_n 1, 1) := by decide +kernel
theorem dX3_isAhead_59 : decode cX3_isAhead 59 = .ok (.iload_n 2, 1) := by decide +kernel
theorem dX3_isAhead_60 : decode cX3_isAhead 60 = .ok (.if_icmp .ge 7, 3) := by decide +kernel
theorem dX3_isAhead_63 : decode cX3_isAhead 63 = .ok (.iconst 1, 1) := by decide +kernel
theorem dX3_isAhead_64 : decode cX3_isAhead 64 = .ok (.goto 4, 3) := by decide +kernel
theorem dX3_isAhead_67 : decode cX3_isAhead 67 = .ok (.iconst 0, 1) := by decide +kernel
theorem dX3_isAhead_68 : decode cX3_isAhead 68 = .ok (.ireturn, 1) := by decide +kernel
set_option maxRecDepth 20000 in
theorem ggX3_ranked_X3_isAhead : GoodIn wsX3_ranked wsX3_isAhead := goodIn_r _ [5, 6, 7, 8, 4, 9, 10, 11, 12, 13, 14, 15, 16, 17, 18, 19, 20, 21, 22, 23, 24, 25, 26, 27, 28, 29, 30, 31, 32, 33, 34, 35] (by decide +kernel) (by decide +kernel)
set_option maxRecDepth 20000 in
theorem gX3_ranked_X3_isAhead : GoodIn wsX3_ranked (wsV RX3 165 RX3 yX3_isAhead wsX3_isAhead) := goodIn_app (goodIn_of _ (by decide +kernel)) ggX3_ranked_X3_isAhead
theorem dX3_ranked_0 : decode cX3_ranked 0 = .ok (.iconst 0, 1) := by decide +kernel
theorem dX3_ranked_1 : decode cX3_ranked 1 = .ok (.istore_n 2, 1) := by decide +kernel
theorem dX3_ranked_2 : decode cX3_ranked 2 = .ok (.iload_n 2, 1) := by decide +kernel
theorem dX3_ranked_3 : decode cX3_ranked 3 = .ok (.iconst 5, 1) := by decide +kernel
theorem dX3_ranked_4 : decode cX3_ranked 4 = .ok (.if_icmp .ge 52, 3) := by decide +kernel
theorem dX3_ranked_7 : decode cX3_ranked 7 = .ok (.iconst 0, 1) := by decide +kernel
theorem dX3_ranked_8 : decode cX3_ranked 8 = .ok (.istore_n 3, 1) := by decide +kernel
theorem dX3_ranked_9 : decode cX3_ranked 9 = .ok (.iconst 0, 1) := by decide +kernel
theorem dX3_ranked_10 : decode cX3_ranked 10 = .ok (.istore 4, 2) := by decide +kernel
theorem dX3_ranked_12 : decode cX3_ranked 12 = .ok (.iload 4, 2) := by decide +kernel
theorem dX3_ranked_14 : decode cX3_ranked 14 = .ok (.iconst 5, 1) := by decide +kernel
theorem dX3_ranked_15 : decode cX3_ranked 15 = .ok (.if_icmp .ge 28, 3) := by decide +kernel
theorem dX3_ranked_18 : decode cX3_ranked 18 = .ok (.iload 4, 2) := by decide +kernel
theorem dX3_ranked_20 : decode cX3_ranked 20 = .ok (.iload_n 2, 1) := by decide +kernel
theorem dX3_ranked_21 : decode cX3_ranked 21 = .ok (.if_icmp .eq 16, 3) := by decide +kernel
theorem dX3_ranked_24 : decode cX3_ranked 24 = .ok (.aload_n 0, 1) := by decide +kernel
theorem dX3_ranked_25 : decode cX3_ranked 25 = .ok (.iload 4, 2) := by decide +kernel
theorem dX3_ranked_27 : decode cX3_ranked 27 = .ok (.iload_n 2, 1) := by decide +kernel
theorem dX3_ranked_28 : decode cX3_ranked 28 = .ok (.invokevirtual 165, 3) := by decide +kernel
theorem dX3_ranked_31 : decode cX3_ranked 31 = .ok (.ifCond .eq 6, 3) := by decide +kernel
theorem dX3_ranked_34 : decode cX3_ranked 34 = .ok (.iinc 3 1, 3) := by decide +kernel
theorem dX3_ranked_37 : decode cX3_ranked 37 = .ok (.iinc 4 1, 3) := by decide +kernel
theorem dX3_ranked_40 : decode cX3_ranked 40 = .ok (.goto (-28), 3) := by decide +kernel
theorem dX3_ranked_43 : decode cX3_ranked 43 = .ok (.iload_n 3, 1) := by decide +kernel
theorem dX3_ranked_44 : decode cX3_ranked 44 = .ok (.iload_n 1, 1) := by decide +kernel
theorem dX3_ranked_45 : decode cX3_ranked 45 = .ok (.if_icmp .ne 5, 3) := by decide +kernel
theorem dX3_ranked_48 : decode cX3_ranked 48 = .ok (.iload_n 2, 1) := by decide +kernel
theorem dX3_ranked_49 : decode cX3_ranked 49 = .ok (.ireturn, 1) := by decide +kernel
theorem dX3_ranked_50 : decode cX3_ranked 50 = .ok (.iinc 2 1, 3) := by decide +kernel
theorem dX3_ranked_53 : decode cX3_ranked 53 = .ok (.goto (-51), 3) := by decide +kernel
theorem dX3_ranked_56 : decode cX3_ranked 56 = .ok (.iconst (-1), 1) := by decide +kernel
theorem dX3_ranked_57 : decode cX3_ranked 57 = .ok (.ireturn, 1) := by decide +kernel
theorem dX3_signs_0 : decode cX3_signs 0 = .ok (.aload_n 0, 1) := by decide +kernel
theorem dX3_signs_1 : decode cX3_signs 1 = .ok (.getfield 25, 3) := by decide +kernel
theorem dX3_signs_4 : decode cX3_signs 4 = .ok (.aload_n 0, 1) := by decide +kernel
theorem dX3_signs_5 : decode cX3_signs 5 = .ok (.dup, 1) := by decide +kernel
theorem dX3_signs_6 : decode cX3_signs 6 = .ok (.getfield 168, 3) := by decide +kernel
theorem dX3_signs_9 : decode cX3_signs 9 = .ok (.dup_x1, 1) := by decide +kernel
theorem dX3_signs_10 : decode cX3_signs 10 = .ok (.iconst 1, 1) := by decide +kernel
theorem dX3_signs_11 : decode cX3_signs 11 = .ok (.iadd, 1) := by decide +kernel
theorem dX3_signs_12 : decode cX3_signs 12 = .ok (.putfield 168, 3) := by decide +kernel
theorem dX3_signs_15 : decode cX3_signs 15 = .ok (.iload_n 1, 1) := by decide +kernel
theorem dX3_signs_16 : decode cX3_signs 16 = .ok (.castore, 1) := by decide +kernel
theorem dX3_signs_17 : decode cX3_signs 17 = .ok (.return_, 1) := by decide +kernel
set_option maxRecDepth 20000 in
theorem ggX3_digitsOf_X3_digitsOf : GoodIn wsX3_digitsOf wsX3_digitsOf := goodIn_r _ [0, 1, 2, 3, 4, 5, 6, 7, 8, 9, 10, 11, 12, 13, 14, 15, 16, 17, 18, 19, 20, 21, 22, 23, 24, 25, 26, 27] (by decide +kernel) (by decide +kernel)
set_option maxRecDepth 20000 in
theorem gX3_digitsOf_X3_digitsOf : GoodIn wsX3_digitsOf (wsV RX3 171 RX3 yX3_digitsOf wsX3_digitsOf) := goodIn_app (goodIn_of _ (by decide +kernel)) ggX3_digitsOf_X3_digitsOf
set_option maxRecDepth 20000 in
theorem ggX3_digitsOf_X3_signs : GoodIn wsX3_digitsOf wsX3_signs := goodIn_r _ [8, 9, 10, 11, 12, 13, 14, 15, 16, 17, 18, 19, 20, 21, 22, 23, 24, 25, 26, 27] (by decide +kernel) (by decide +kernel)
set_option maxRecDepth 20000 in
theorem gX3_digitsOf_X3_signs : GoodIn wsX3_digitsOf (wsV RX3 175 RX3 yX3_signs wsX3_signs) := goodIn_app (goodIn_of _ (by decide +kernel)) ggX3_digitsOf_X3_signs
theorem dX3_digitsOf_0 : decode cX3_digitsOf 0 = .ok (.iload_n 1, 1) := by decide +kernel
theorem dX3_digitsOf_1 : decode cX3_digitsOf 1 = .ok (.bipush 9, 2) := by decide +kernel
theorem dX3_digitsOf_3 : decode cX3_digitsOf 3 = .ok (.if_icmp .le 11, 3) := by decide +kernel
theorem dX3_digitsOf_6 : decode cX3_digitsOf 6 = .ok (.aload_n 0, 1) := by decide +kernel
theorem dX3_digitsOf_7 : decode cX3_digitsOf 7 = .ok (.iload_n 1, 1) := by decide +kernel
theorem dX3_digitsOf_8 : decode cX3_digitsOf 8 = .ok (.bipush 10, 2) := by decide +kernel
theorem dX3_digitsOf_10 : decode cX3_digitsOf 10 = .ok (.idiv, 1) := by decide +kernel
theorem dX3_digitsOf_11 : decode cX3_digitsOf 11 = .ok (.invokevirtual 171, 3) := by decide +kernel
theorem dX3_digitsOf_14 : decode cX3_digitsOf 14 = .ok (.aload_n 0, 1) := by decide +kernel
theorem dX3_digitsOf_15 : decode cX3_digitsOf 15 = .ok (.bipush 48, 2) := by decide +kernel
theorem dX3_digitsOf_17 : decode cX3_digitsOf 17 = .ok (.iload_n 1, 1) := by decide +kernel
theorem dX3_digitsOf_18 : decode cX3_digitsOf 18 = .ok (.bipush 10, 2) := by decide +kernel
theorem dX3_digitsOf_20 : decode cX3_digitsOf 20 = .ok (.irem, 1) := by decide +kernel
theorem dX3_digitsOf_21 : decode cX3_digitsOf 21 = .ok (.iadd, 1) := by decide +kernel
theorem dX3_digitsOf_22 : decode cX3_digitsOf 22 = .ok (.i2c, 1) := by decide +kernel
theorem dX3_digitsOf_23 : decode cX3_digitsOf 23 = .ok (.invokevirtual 175, 3) := by decide +kernel
theorem dX3_digitsOf_26 : decode cX3_digitsOf 26 = .ok (.return_, 1) := by decide +kernel
set_option maxRecDepth 20000 in
theorem ggX3_describe_X3_isCamp : GoodIn wsX3_describe wsX3_isCamp := goodIn_r _ [5, 6, 7, 4, 8] (by decide +kernel) (by decide +kernel)
set_option maxRecDepth 20000 in
theorem gX3_describe_X3_isCamp : GoodIn wsX3_describe (va_wsS RX3 97 yX3_isCamp wsX3_isCamp) := goodIn_app (goodIn_of _ (by decide +kernel)) ggX3_describe_X3_isCamp
set_option maxRecDepth 20000 in
theorem ggX3_describe_X3_digitsOf : GoodIn wsX3_describe wsX3_digitsOf := goodIn_r _ [12, 9, 10, 11, 4, 13, 14, 15, 16, 17, 1, 27, 28, 29, 30, 31, 32, 33, 34, 35, 36, 37, 38, 39, 40, 41, 42, 43] (by decide +kernel) (by decide +kernel)
set_option maxRecDepth 20000 in
theorem gX3_describe_X3_digitsOf : GoodIn wsX3_describe (wsV RX3 171 RX3 yX3_digitsOf wsX3_digitsOf) := goodIn_app (goodIn_of _ (by decide +kernel)) ggX3_describe_X3_digitsOf
set_option maxRecDepth 20000 in
theorem ggX3_describe_X3_isAwake : GoodIn wsX3_describe wsX3_isAwake := goodIn_r _ [21, 22, 23, 24, 4, 25, 26, 27, 28, 29, 30, 31, 32, 33, 34, 35, 36, 37, 38, 39, 40, 41, 42, 43] (by decide +kernel) (by decide +kernel)
set_option maxRecDepth 20000 in
theorem gX3_describe_X3_isAwake : GoodIn wsX3_describe (wsV RX3 64 RX3 yX3_isAwake wsX3_isAwake) := goodIn_app (goodIn_of _ (by decide +kernel)) ggX3_describe_X3_isAwake
set_option maxRecDepth 20000 in
theorem ggX3_describe_X3_signs : GoodIn wsX3_describe wsX3_signs := goodIn_r _ [16, 17, 1, 27, 28, 29, 30, 31, 32, 33, 34, 35, 36, 37, 38, 39, 40, 41, 42, 43] (by decide +kernel) (by decide +kernel)
set_option maxRecDepth 20000 in
theorem gX3_describe_X3_signs : GoodIn wsX3_describe (wsV RX3 175 RX3 yX3_signs wsX3_signs) := goodIn_app (goodIn_of _ (by decide +kernel)) ggX3_describe_X3_signs
set_option maxRecDepth 20000 in
theorem ggX3_describe_X3_of : GoodIn wsX3_describe wsX3_of := goodIn_r _ [25, 26, 27, 28, 29, 30, 31, 32, 33, 34, 35, 36, 37, 38, 39, 40, 41, 42, 43] (by decide +kernel) (by decide +kernel)
set_option maxRecDepth 20000 in
theorem gX3_describe_X3_of : GoodIn wsX3_describe (wsV RX3 52 RX3 yX3_of wsX3_of) := goodIn_app (goodIn_of _ (by decide +kernel)) ggX3_describe_X3_of
theorem dX3_describe_0 : decode cX3_describe 0 = .ok (.iload_n 1, 1) := by decide +kernel
theorem dX3_describe_1 : decode cX3_describe 1 = .ok (.invokestatic 97, 3) := by decide +kernel
theorem dX3_describe_4 : decode cX3_describe 4 = .ok (.ifCond .ne 5, 3) := by decide +kernel
theorem dX3_describe_7 : decode cX3_describe 7 = .ok (.iconst (-1), 1) := by decide +kernel
theorem dX3_describe_8 : decode cX3_describe 8 = .ok (.ireturn, 1) := by decide +kernel
theorem dX3_describe_9 : decode cX3_describe 9 = .ok (.aload_n 0, 1) := by decide +kernel
theorem dX3_describe_10 : decode cX3_describe 10 = .ok (.iconst 0, 1) := by decide +kernel
theorem dX3_describe_11 : decode cX3_describe 11 = .ok (.putfield 168, 3) := by decide +kernel
theorem dX3_describe_14 : decode cX3_describe 14 = .ok (.aload_n 0, 1) := by decide +kernel
theorem dX3_describe_15 : decode cX3_describe 15 = .ok (.iload_n 1, 1) := by decide +kernel
theorem dX3_describe_16 : decode cX3_describe 16 = .ok (.invokevirtual 171, 3) := by decide +kernel
theorem dX3_describe_19 : decode cX3_describe 19 = .ok (.aload_n 0, 1) := by decide +kernel
theorem dX3_describe_20 : decode cX3_describe 20 = .ok (.iload_n 1, 1) := by decide +kernel
theorem dX3_describe_21 : decode cX3_describe 21 = .ok (.invokevirtual 64, 3) := by decide +kernel
theorem dX3_describe_24 : decode cX3_describe 24 = .ok (.ifCond .ne 9, 3) := by decide +kernel
theorem dX3_describe_27 : decode cX3_describe 27 = .ok (.aload_n 0, 1) := by decide +kernel
theorem dX3_describe_28 : decode cX3_describe 28 = .ok (.bipush 122, 2) := by decide +kernel
theorem dX3_describe_30 : decode cX3_describe 30 = .ok (.invokevirtual 175, 3) := by decide +kernel
theorem dX3_describe_33 : decode cX3_describe 33 = .ok (.aload_n 0, 1) := by decide +kernel
theorem dX3_describe_34 : decode cX3_describe 34 = .ok (.iload_n 1, 1) := by decide +kernel
theorem dX3_describe_35 : decode cX3_describe 35 = .ok (.iconst 2, 1) := by decide +kernel
theorem dX3_describe_36 : decode cX3_describe 36 = .ok (.invokevirtual 52, 3) := by decide +kernel
theorem dX3_describe_39 : decode cX3_describe 39 = .ok (.iconst 1, 1) := by decide +kernel
theorem dX3_describe_40 : decode cX3_describe 40 = .ok (.if_icmp .ne 9, 3) := by decide +kernel
theorem dX3_describe_43 : decode cX3_describe 43 = .ok (.aload_n 0, 1) := by decide +kernel
theorem dX3_describe_44 : decode cX3_describe 44 = .ok (.bipush 67, 2) := by decide +kernel
theorem dX3_describe_46 : decode cX3_describe 46 = .ok (.invokevirtual 175, 3) := by decide +kernel
theorem dX3_describe_49 : decode cX3_describe 49 = .ok (.aload_n 0, 1) := by decide +kernel
theorem dX3_describe_50 : decode cX3_describe 50 = .ok (.bipush 58, 2) := by decide +kernel
theorem dX3_describe_52 : decode cX3_describe 52 = .ok (.invokevirtual 175, 3) := by decide +kernel
theorem dX3_describe_55 : decode cX3_describe 55 = .ok (.aload_n 0, 1) := by decide +kernel
theorem dX3_describe_56 : decode cX3_describe 56 = .ok (.aload_n 0, 1) := by decide +kernel
theorem dX3_describe_57 : decode cX3_describe 57 = .ok (.iload_n 1, 1) := by decide +kernel
theorem dX3_describe_58 : decode cX3_describe 58 = .ok (.iconst 0, 1) := by decide +kernel
theorem dX3_describe_59 : decode cX3_describe 59 = .ok (.invokevirtual 52, 3) := by decide +kernel
theorem dX3_describe_62 : decode cX3_describe 62 = .ok (.invokevirtual 171, 3) := by decide +kernel
theorem dX3_describe_65 : decode cX3_describe 65 = .ok (.aload_n 0, 1) := by decide +kernel
theorem dX3_describe_66 : decode cX3_describe 66 = .ok (.bipush 118, 2) := by decide +kernel
theorem dX3_describe_68 : decode cX3_describe 68 = .ok (.invokevirtual 175, 3) := by decide +kernel
theorem dX3_describe_71 : decode cX3_describe 71 = .ok (.aload_n 0, 1) := by decide +kernel
theorem dX3_describe_72 : decode cX3_describe 72 = .ok (.iload_n 1, 1) := by decide +kernel
theorem dX3_describe_73 : decode cX3_describe 73 = .ok (.iconst 1, 1) := by decide +kernel
theorem dX3_describe_74 : decode cX3_describe 74 = .ok (.invokevirtual 52, 3) := by decide +kernel
theorem dX3_describe_77 : decode cX3_describe 77 = .ok (.ifCond .ne 12, 3) := by decide +kernel
theorem dX3_describe_80 : decode cX3_describe 80 = .ok (.aload_n 0, 1) := by decide +kernel
theorem dX3_describe_81 : decode cX3_describe 81 = .ok (.bipush 45, 2) := by decide +kernel
theorem dX3_describe_83 : decode cX3_describe 83 = .ok (.invokevirtual 175, 3) := by decide +kernel
theorem dX3_describe_86 : decode cX3_describe 86 = .ok (.goto 15, 3) := by decide +kernel
theorem dX3_describe_89 : decode cX3_describe 89 = .ok (.aload_n 0, 1) := by decide +kernel
theorem dX3_describe_90 : decode cX3_describe 90 = .ok (.aload_n 0, 1) := by decide +kernel
theorem dX3_describe_91 : decode cX3_describe 91 = .ok (.iload_n 1, 1) := by decide +kernel
theorem dX3_describe_92 : decode cX3_describe 92 = .ok (.iconst 1, 1) := by decide +kernel
theorem dX3_describe_93 : decode cX3_describe 93 = .ok (.invokevirtual 52, 3) := by decide +kernel
theorem dX3_describe_96 : decode cX3_describe 96 = .ok (.iconst 1, 1) := by decide +kernel
theorem dX3_describe_97 : decode cX3_describe 97 = .ok (.isub, 1) := by decide +kernel
theorem dX3_describe_98 : decode cX3_describe 98 = .ok (.invokevirtual 171, 3) := by decide +kernel
theorem dX3_describe_101 : decode cX3_describe 101 = .ok (.aload_n 0, 1) := by decide +kernel
theorem dX3_describe_102 : decode cX3_describe 102 = .ok (.bipush 115, 2) := by decide +kernel
theorem dX3_describe_104 : decode cX3_describe 104 = .ok (.invokevirtual 175, 3) := by decide +kernel
theorem dX3_describe_107 : decode cX3_describe 107 = .ok (.aload_n 0, 1) := by decide +kernel
theorem dX3_describe_108 : decode cX3_describe 108 = .ok (.aload_n 0, 1) := by decide +kernel
theorem dX3_describe_109 : decode cX3_describe 109 = .ok (.iload_n 1, 1) := by decide +kernel
theorem dX3_describe_110 : decode cX3_describe 110 = .ok (.iconst 4, 1) := by decide +kernel
theorem dX3_describe_111 : decode cX3_describe 111 = .ok (.invokevirtual 52, 3) := by decide +kernel
theorem dX3_describe_114 : decode cX3_describe 114 = .ok (.invokevirtual 171, 3) := by decide +kernel
theorem dX3_describe_117 : decode cX3_describe 117 = .ok (.aload_n 0, 1) := by decide +kernel
theorem dX3_describe_118 : decode cX3_describe 118 = .ok (.getfield 168, 3) := by decide +kernel
theorem dX3_describe_121 : decode cX3_describe 121 = .ok (.ireturn, 1) := by decide +kernel
set_option maxRecDepth 20000 in
theorem ggX3_show_X3_isCamp : GoodIn wsX3_show wsX3_isCamp := goodIn_r _ [5, 6, 7, 4, 8] (by decide +kernel) (by decide +kernel)
set_option maxRecDepth 20000 in
theorem gX3_show_X3_isCamp : GoodIn wsX3_show (va_wsS RX3 97 yX3_isCamp wsX3_isCamp) := goodIn_app (goodIn_of _ (by decide +kernel)) ggX3_show_X3_isCamp
set_option maxRecDepth 20000 in
theorem ggX3_show_X3_of : GoodIn wsX3_show wsX3_of := goodIn_r _ [12, 13, 27, 28, 29, 30, 31, 32, 33, 34, 35, 36, 37, 38, 39, 40, 41, 42, 43] (by decide +kernel) (by decide +kernel)
set_option maxRecDepth 20000 in
theorem gX3_show_X3_of : GoodIn wsX3_show (wsV RX3 52 RX3 yX3_of wsX3_of) := goodIn_app (goodIn_of _ (by decide +kernel)) ggX3_show_X3_of
set_option maxRecDepth 20000 in
theorem ggX3_show_X3_signs : GoodIn wsX3_show wsX3_signs := goodIn_r _ [17, 18, 1, 27, 28, 29, 30, 31, 32, 33, 34, 35, 36, 37, 38, 39, 40, 41, 42, 43] (by decide +kernel) (by decide +kernel)
set_option maxRecDepth 20000 in
theorem gX3_show_X3_signs : GoodIn wsX3_show (wsV RX3 175 RX3 yX3_signs wsX3_signs) := goodIn_app (goodIn_of _ (by decide +kernel)) ggX3_show_X3_signs
set_option maxRecDepth 20000 in
theorem ggX3_show_X3_page : GoodIn wsX3_show wsX3_page := goodIn_r _ [22, 9, 10, 11, 4, 12, 13, 27, 28, 29, 30, 31, 32, 33, 34, 35, 36, 37, 38, 39, 40, 41, 42, 43] (by decide +kernel) (by decide +kernel)
set_option maxRecDepth 20000 in
theorem gX3_show_X3_page : GoodIn wsX3_show (wsV RX3 71 RX3 yX3_page wsX3_page) := goodIn_app (goodIn_of _ (by decide +kernel)) ggX3_show_X3_page
set_option maxRecDepth 20000 in
theorem ggX3_show_X3_digitsOf : GoodIn wsX3_show wsX3_digitsOf := goodIn_r _ [26, 23, 24, 25, 4, 14, 15, 16, 17, 18, 1, 27, 28, 29, 30, 31, 32, 33, 34, 35, 36, 37, 38, 39, 40, 41, 42, 43] (by decide +kernel) (by decide +kernel)
set_option maxRecDepth 20000 in
theorem gX3_show_X3_digitsOf : GoodIn wsX3_show (wsV RX3 171 RX3 yX3_digitsOf wsX3_digitsOf) := goodIn_app (goodIn_of _ (by decide +kernel)) ggX3_show_X3_digitsOf
theorem dX3_show_0 : decode cX3_show 0 = .ok (.iload_n 1, 1) := by decide +kernel
theorem dX3_show_1 : decode cX3_show 1 = .ok (.invokestatic 97, 3) := by decide +kernel
theorem dX3_show_4 : decode cX3_show 4 = .ok (.ifCond .ne 5, 3) := by decide +kernel
theorem dX3_show_7 : decode cX3_show 7 = .ok (.iconst (-1), 1) := by decide +kernel
theorem dX3_show_8 : decode cX3_show 8 = .ok (.ireturn, 1) := by decide +kernel
theorem dX3_show_9 : decode cX3_show 9 = .ok (.aload_n 0, 1) := by decide +kernel
theorem dX3_show_10 : decode cX3_show 10 = .ok (.iconst 0, 1) := by decide +kernel
theorem dX3_show_11 : decode cX3_show 11 = .ok (.putfield 168, 3) := by decide +kernel
theorem dX3_show_14 : decode cX3_show 14 = .ok (.iconst 0, 1) := by decide +kernel
theorem dX3_show_15 : decode cX3_show 15 = .ok (.istore_n 2, 1) := by decide +kernel
theorem dX3_show_16 : decode cX3_show 16 = .ok (.iload_n 2, 1) := by decide +kernel
theorem dX3_show_17 : decode cX3_show 17 = .ok (.aload_n 0, 1) := by decide +kernel
theorem dX3_show_18 : decode cX3_show 18 = .ok (.iload_n 1, 1) := by decide +kernel
theorem dX3_show_19 : decode cX3_show 19 = .ok (.bipush 6, 2) := by decide +kernel
theorem dX3_show_21 : decode cX3_show 21 = .ok (.invokevirtual 52, 3) := by decide +kernel
theorem dX3_show_24 : decode cX3_show 24 = .ok (.if_icmp .gt 65, 3) := by decide +kernel
theorem dX3_show_27 : decode cX3_show 27 = .ok (.iload_n 2, 1) := by decide +kernel
theorem dX3_show_28 : decode cX3_show 28 = .ok (.aload_n 0, 1) := by decide +kernel
theorem dX3_show_29 : decode cX3_show 29 = .ok (.iload_n 1, 1) := by decide +kernel
theorem dX3_show_30 : decode cX3_show 30 = .ok (.iconst 5, 1) := by decide +kernel
theorem dX3_show_31 : decode cX3_show 31 = .ok (.invokevirtual 52, 3) := by decide +kernel
theorem dX3_show_34 : decode cX3_show 34 = .ok (.if_icmp .ne 9, 3) := by decide +kernel
theorem dX3_show_37 : decode cX3_show 37 = .ok (.aload_n 0, 1) := by decide +kernel
theorem dX3_show_38 : decode cX3_show 38 = .ok (.bipush 124, 2) := by decide +kernel
theorem dX3_show_40 : decode cX3_show 40 = .ok (.invokevirtual 175, 3) := by decide +kernel
theorem dX3_show_43 : decode cX3_show 43 = .ok (.iload_n 2, 1) := by decide +kernel
theorem dX3_show_44 : decode cX3_show 44 = .ok (.aload_n 0, 1) := by decide +kernel
theorem dX3_show_45 : decode cX3_show 45 = .ok (.iload_n 1, 1) := by decide +kernel
theorem dX3_show_46 : decode cX3_show 46 = .ok (.bipush 6, 2) := by decide +kernel
theorem dX3_show_48 : decode cX3_show 48 = .ok (.invokevirtual 52, 3) := by decide +kernel
theorem dX3_show_51 : decode cX3_show 51 = .ok (.if_icmp .ne 6, 3) := by decide +kernel
theorem dX3_show_54 : decode cX3_show 54 = .ok (.goto 29, 3) := by decide +kernel
theorem dX3_show_57 : decode cX3_show 57 = .ok (.aload_n 0, 1) := by decide +kernel
theorem dX3_show_58 : decode cX3_show 58 = .ok (.bipush 97, 2) := by decide +kernel
theorem dX3_show_60 : decode cX3_show 60 = .ok (.aload_n 0, 1) := by decide +kernel
theorem dX3_show_61 : decode cX3_show 61 = .ok (.iload_n 1, 1) := by decide +kernel
theorem dX3_show_62 : decode cX3_show 62 = .ok (.iload_n 2, 1) := by decide +kernel
theorem dX3_show_63 : decode cX3_show 63 = .ok (.iconst 1, 1) := by decide +kernel
theorem dX3_show_64 : decode cX3_show 64 = .ok (.invokevirtual 71, 3) := by decide +kernel
theorem dX3_show_67 : decode cX3_show 67 = .ok (.iadd, 1) := by decide +kernel
theorem dX3_show_68 : decode cX3_show 68 = .ok (.i2c, 1) := by decide +kernel
theorem dX3_show_69 : decode cX3_show 69 = .ok (.invokevirtual 175, 3) := by decide +kernel
theorem dX3_show_72 : decode cX3_show 72 = .ok (.aload_n 0, 1) := by decide +kernel
theorem dX3_show_73 : decode cX3_show 73 = .ok (.aload_n 0, 1) := by decide +kernel
theorem dX3_show_74 : decode cX3_show 74 = .ok (.iload_n 1, 1) := by decide +kernel
theorem dX3_show_75 : decode cX3_show 75 = .ok (.iload_n 2, 1) := by decide +kernel
theorem dX3_show_76 : decode cX3_show 76 = .ok (.iconst 0, 1) := by decide +kernel
theorem dX3_show_77 : decode cX3_show 77 = .ok (.invokevirtual 71, 3) := by decide +kernel
theorem dX3_show_80 : decode cX3_show 80 = .ok (.invokevirtual 171, 3) := by decide +kernel
theorem dX3_show_83 : decode cX3_show 83 = .ok (.iinc 2 1, 3) := by decide +kernel
theorem dX3_show_86 : decode cX3_show 86 = .ok (.goto (-70), 3) := by decide +kernel
theorem dX3_show_89 : decode cX3_show 89 = .ok (.aload_n 0, 1) := by decide +kernel
theorem dX3_show_90 : decode cX3_show 90 = .ok (.getfield 168, 3) := by decide +kernel
theorem dX3_show_93 : decode cX3_show 93 = .ok (.ireturn, 1) := by decide +kernel
set_option maxRecDepth 20000 in
theorem ggX3_sign_X3_in : GoodIn wsX3_sign wsX3_in := goodIn_r _ [6] (by decide +kernel) (by decide +kernel)
set_option maxRecDepth 20000 in
theorem gX3_sign_X3_in : GoodIn wsX3_sign (va_wsS RX3 48 yX3_in wsX3_in) := goodIn_app (goodIn_of _ (by decide +kernel)) ggX3_sign_X3_in
theorem dX3_sign_0 : decode cX3_sign 0 = .ok (.iload_n 1, 1) := by decide +kernel
theorem dX3_sign_1 : decode cX3_sign 1 = .ok (.iconst 0, 1) := by decide +kernel
theorem dX3_sign_2 : decode cX3_sign 2 = .ok (.aload_n 0, 1) := by decide +kernel
theorem dX3_sign_3 : decode cX3_sign 3 = .ok (.getfield 168, 3) := by decide +kernel
theorem dX3_sign_6 : decode cX3_sign 6 = .ok (.iconst 1, 1) := by decide +kernel
theorem dX3_sign_7 : decode cX3_sign 7 = .ok (.isub, 1) := by decide +kernel
theorem dX3_sign_8 : decode cX3_sign 8 = .ok (.invokestatic 48, 3) := by decide +kernel
theorem dX3_sign_11 : decode cX3_sign 11 = .ok (.ifCond .eq 12, 3) := by decide +kernel
theorem dX3_sign_14 : decode cX3_sign 14 = .ok (.aload_n 0, 1) := by decide +kernel
theorem dX3_sign_15 : decode cX3_sign 15 = .ok (.getfield 25, 3) := by decide +kernel
theorem dX3_sign_18 : decode cX3_sign 18 = .ok (.iload_n 1, 1) := by decide +kernel
theorem dX3_sign_19 : decode cX3_sign 19 = .ok (.caload, 1) := by decide +kernel
theorem dX3_sign_20 : decode cX3_sign 20 = .ok (.goto 4, 3) := by decide +kernel
theorem dX3_sign_23 : decode cX3_sign 23 = .ok (.iconst (-1), 1) := by decide +kernel
theorem dX3_sign_24 : decode cX3_sign 24 = .ok (.ireturn, 1) := by decide +kernel
set_option maxRecDepth 20000 in
theorem ggX3_append_X3_in : GoodIn wsX3_append wsX3_in := goodIn_r _ [6] (by decide +kernel) (by decide +kernel)
set_option maxRecDepth 20000 in
theorem gX3_append_X3_in : GoodIn wsX3_append (va_wsS RX3 48 yX3_in wsX3_in) := goodIn_app (goodIn_of _ (by decide +kernel)) ggX3_append_X3_in
theorem dX3_append_0 : decode cX3_append 0 = .ok (.iload_n 1, 1) := by decide +kernel
theorem dX3_append_1 : decode cX3_append 1 = .ok (.bipush 32, 2) := by decide +kernel
theorem dX3_append_3 : decode cX3_append 3 = .ok (.bipush 126, 2) := by decide +kernel
theorem dX3_append_5 : decode cX3_append 5 = .ok (.invokestatic 48, 3) := by decide +kernel
theorem dX3_append_8 : decode cX3_append 8 = .ok (.ifCond .eq 12, 3) := by decide +kernel
theorem dX3_append_11 : decode cX3_append 11 = .ok (.aload_n 0, 1) := by decide +kernel
theorem dX3_append_12 : decode cX3_append 12 = .ok (.getfield 179, 3) := by decide +kernel
theorem dX3_append_15 : decode cX3_append 15 = .ok (.bipush 70, 2) := by decide +kernel
theorem dX3_append_17 : decode cX3_append 17 = .ok (.if_icmp .ne 6, 3) := by decide +kernel
theorem dX3_append_20 : decode cX3_append 20 = .ok (.bipush (-2), 2) := by decide +kernel
theorem dX3_append_22 : decode cX3_append 22 = .ok (.ireturn, 1) := by decide +kernel
theorem dX3_append_23 : decode cX3_append 23 = .ok (.aload_n 0, 1) := by decide +kernel
theorem dX3_append_24 : decode cX3_append 24 = .ok (.getfield 29, 3) := by decide +kernel
theorem dX3_append_27 : decode cX3_append 27 = .ok (.aload_n 0, 1) := by decide +kernel
theorem dX3_append_28 : decode cX3_append 28 = .ok (.dup, 1) := by decide +kernel
theorem dX3_append_29 : decode cX3_append 29 = .ok (.getfield 179, 3) := by decide +kernel
theorem dX3_append_32 : decode cX3_append 32 = .ok (.dup_x1, 1) := by decide +kernel
theorem dX3_append_33 : decode cX3_append 33 = .ok (.iconst 1, 1) := by decide +kernel
theorem dX3_append_34 : decode cX3_append 34 = .ok (.iadd, 1) := by decide +kernel
theorem dX3_append_35 : decode cX3_append 35 = .ok (.putfield 179, 3) := by decide +kernel
theorem dX3_append_38 : decode cX3_append 38 = .ok (.iload_n 1, 1) := by decide +kernel
theorem dX3_append_39 : decode cX3_append 39 = .ok (.i2c, 1) := by decide +kernel
theorem dX3_append_40 : decode cX3_append 40 = .ok (.castore, 1) := by decide +kernel
theorem dX3_append_41 : decode cX3_append 41 = .ok (.aload_n 0, 1) := by decide +kernel
theorem dX3_append_42 : decode cX3_append 42 = .ok (.getfield 179, 3) := by decide +kernel
theorem dX3_append_45 : decode cX3_append 45 = .ok (.ireturn, 1) := by decide +kernel
theorem dX3_takes_0 : decode cX3_takes 0 = .ok (.aload_n 0, 1) := by decide +kernel
theorem dX3_takes_1 : decode cX3_takes 1 = .ok (.getfield 182, 3) := by decide +kernel
theorem dX3_takes_4 : decode cX3_takes 4 = .ok (.aload_n 0, 1) := by decide +kernel
theorem dX3_takes_5 : decode cX3_takes 5 = .ok (.getfield 179, 3) := by decide +kernel
theorem dX3_takes_8 : decode cX3_takes 8 = .ok (.if_icmp .eq 16, 3) := by decide +kernel
theorem dX3_takes_11 : decode cX3_takes 11 = .ok (.aload_n 0, 1) := by decide +kernel
theorem dX3_takes_12 : decode cX3_takes 12 = .ok (.getfield 29, 3) := by decide +kernel
theorem dX3_takes_15 : decode cX3_takes 15 = .ok (.aload_n 0, 1) := by decide +kernel
theorem dX3_takes_16 : decode cX3_takes 16 = .ok (.getfield 182, 3) := by decide +kernel
theorem dX3_takes_19 : decode cX3_takes 19 = .ok (.caload, 1) := by decide +kernel
theorem dX3_takes_20 : decode cX3_takes 20 = .ok (.iload_n 1, 1) := by decide +kernel
theorem dX3_takes_21 : decode cX3_takes 21 = .ok (.if_icmp .eq 5, 3) := by decide +kernel
theorem dX3_takes_24 : decode cX3_takes 24 = .ok (.iconst 0, 1) := by decide +kernel
theorem dX3_takes_25 : decode cX3_takes 25 = .ok (.ireturn, 1) := by decide +kernel
theorem dX3_takes_26 : decode cX3_takes 26 = .ok (.aload_n 0, 1) := by decide +kernel
theorem dX3_takes_27 : decode cX3_takes 27 = .ok (.dup, 1) := by decide +kernel
theorem dX3_takes_28 : decode cX3_takes 28 = .ok (.getfield 182, 3) := by decide +kernel
theorem dX3_takes_31 : decode cX3_takes 31 = .ok (.iconst 1, 1) := by decide +kernel
theorem dX3_takes_32 : decode cX3_takes 32 = .ok (.iadd, 1) := by decide +kernel
theorem dX3_takes_33 : decode cX3_takes 33 = .ok (.putfield 182, 3) := by decide +kernel
theorem dX3_takes_36 : decode cX3_takes 36 = .ok (.iconst 1, 1) := by decide +kernel
theorem dX3_takes_37 : decode cX3_takes 37 = .ok (.ireturn, 1) := by decide +kernel
set_option maxRecDepth 20000 in
theorem ggX3_digits_X3_in : GoodIn wsX3_digits wsX3_in := goodIn_r _ [8] (by decide +kernel) (by decide +kernel)
set_option maxRecDepth 20000 in
theorem gX3_digits_X3_in : GoodIn wsX3_digits (va_wsS RX3 48 yX3_in wsX3_in) := goodIn_app (goodIn_of _ (by decide +kernel)) ggX3_digits_X3_in
theorem dX3_digits_0 : decode cX3_digits 0 = .ok (.iconst 0, 1) := by decide +kernel
theorem dX3_digits_1 : decode cX3_digits 1 = .ok (.istore_n 3, 1) := by decide +kernel
theorem dX3_digits_2 : decode cX3_digits 2 = .ok (.aload_n 0, 1) := by decide +kernel
theorem dX3_digits_3 : decode cX3_digits 3 = .ok (.getfield 32, 3) := by decide +kernel
theorem dX3_digits_6 : decode cX3_digits 6 = .ok (.iload_n 1, 1) := by decide +kernel
theorem dX3_digits_7 : decode cX3_digits 7 = .ok (.iconst 0, 1) := by decide +kernel
theorem dX3_digits_8 : decode cX3_digits 8 = .ok (.iastore, 1) := by decide +kernel
theorem dX3_digits_9 : decode cX3_digits 9 = .ok (.iload_n 3, 1) := by decide +kernel
theorem dX3_digits_10 : decode cX3_digits 10 = .ok (.iload_n 2, 1) := by decide +kernel
theorem dX3_digits_11 : decode cX3_digits 11 = .ok (.if_icmp .ge 74, 3) := by decide +kernel
theorem dX3_digits_14 : decode cX3_digits 14 = .ok (.aload_n 0, 1) := by decide +kernel
theorem dX3_digits_15 : decode cX3_digits 15 = .ok (.getfield 182, 3) := by decide +kernel
theorem dX3_digits_18 : decode cX3_digits 18 = .ok (.aload_n 0, 1) := by decide +kernel
theorem dX3_digits_19 : decode cX3_digits 19 = .ok (.getfield 179, 3) := by decide +kernel
theorem dX3_digits_22 : decode cX3_digits 22 = .ok (.if_icmp .ge 63, 3) := by decide +kernel
theorem dX3_digits_25 : decode cX3_digits 25 = .ok (.aload_n 0, 1) := by decide +kernel
theorem dX3_digits_26 : decode cX3_digits 26 = .ok (.getfield 29, 3) := by decide +kernel
theorem dX3_digits_29 : decode cX3_digits 29 = .ok (.aload_n 0, 1) := by decide +kernel
theorem dX3_digits_30 : decode cX3_digits 30 = .ok (.getfield 182, 3) := by decide +kernel
theorem dX3_digits_33 : decode cX3_digits 33 = .ok (.caload, 1) := by decide +kernel
theorem dX3_digits_34 : decode cX3_digits 34 = .ok (.bipush 48, 2) := by decide +kernel
theorem dX3_digits_36 : decode cX3_digits 36 = .ok (.bipush 57, 2) := by decide +kernel
theorem dX3_digits_38 : decode cX3_digits 38 = .ok (.invokestatic 48, 3) := by decide +kernel
theorem dX3_digits_41 : decode cX3_digits 41 = .ok (.ifCond .eq 44, 3) := by decide +kernel
theorem dX3_digits_44 : decode cX3_digits 44 = .ok (.aload_n 0, 1) := by decide +kernel
theorem dX3_digits_45 : decode cX3_digits 45 = .ok (.getfield 32, 3) := by decide +kernel
theorem dX3_digits_48 : decode cX3_digits 48 = .ok (.iload_n 1, 1) := by decide +kernel
theorem dX3_digits_49 : decode cX3_digits 49 = .ok (.bipush 10, 2) := by decide +kernel
theorem dX3_digits_51 : decode cX3_digits 51 = .ok (.aload_n 0, 1) := by decide +kernel
theorem dX3_digits_52 : decode cX3_digits 52 = .ok (.getfield 32, 3) := by decide +kernel
theorem dX3_digits_55 : decode cX3_digits 55 = .ok (.iload_n 1, 1) := by decide +kernel
theorem dX3_digits_56 : decode cX3_digits 56 = .ok (.iaload, 1) := by decide +kernel
theorem dX3_digits_57 : decode cX3_digits 57 = .ok (.imul, 1) := by decide +kernel
theorem dX3_digits_58 : decode cX3_digits 58 = .ok (.aload_n 0, 1) := by decide +kernel
theorem dX3_digits_59 : decode cX3_digits 59 = .ok (.getfield 29, 3) := by decide +kernel
theorem dX3_digits_62 : decode cX3_digits 62 = .ok (.aload_n 0, 1) := by decide +kernel
theorem dX3_digits_63 : decode cX3_digits 63 = .ok (.dup, 1) := by decide +kernel
theorem dX3_digits_64 : decode cX3_digits 64 = .ok (.getfield 182, 3) := by decide +kernel
theorem dX3_digits_67 : decode cX3_digits 67 = .ok (.dup_x1, 1) := by decide +kernel
theorem dX3_digits_68 : decode cX3_digits 68 = .ok (.iconst 1, 1) := by decide +kernel
theorem dX3_digits_69 : decode cX3_digits 69 = .ok (.iadd, 1) := by decide +kernel
theorem dX3_digits_70 : decode cX3_digits 70 = .ok (.putfield 182, 3) := by decide +kernel
theorem dX3_digits_73 : decode cX3_digits 73 = .ok (.caload, 1) := by decide +kernel
theorem dX3_digits_74 : decode cX3_digits 74 = .ok (.iadd, 1) := by decide +kernel
theorem dX3_digits_75 : decode cX3_digits 75 = .ok (.bipush 48, 2) := by decide +kernel
theorem dX3_digits_77 : decode cX3_digits 77 = .ok (.isub, 1) := by decide +kernel
theorem dX3_digits_78 : decode cX3_digits 78 = .ok (.iastore, 1) := by decide +kernel
theorem dX3_digits_79 : decode cX3_digits 79 = .ok (.iinc 3 1, 3) := by decide +kernel
theorem dX3_digits_82 : decode cX3_digits 82 = .ok (.goto (-73), 3) := by decide +kernel
theorem dX3_digits_85 : decode cX3_digits 85 = .ok (.iload_n 3, 1) := by decide +kernel
theorem dX3_digits_86 : decode cX3_digits 86 = .ok (.ifCond .le 7, 3) := by decide +kernel
theorem dX3_digits_89 : decode cX3_digits 89 = .ok (.iconst 1, 1) := by decide +kernel
theorem dX3_digits_90 : decode cX3_digits 90 = .ok (.goto 4, 3) := by decide +kernel
theorem dX3_digits_93 : decode cX3_digits 93 = .ok (.iconst 0, 1) := by decide +kernel
theorem dX3_digits_94 : decode cX3_digits 94 = .ok (.ireturn, 1) := by decide +kernel
set_option maxRecDepth 20000 in
theorem ggX3_isCommand_X3_digits : GoodIn wsX3_isCommand wsX3_digits := goodIn_r _ [10, 5, 1, 2, 3, 11, 12, 9, 13, 14, 15, 16, 17, 18, 19, 20, 21, 22, 23, 24, 25, 26, 27, 28, 29, 30] (by decide +kernel) (by decide +kernel)
set_option maxRecDepth 20000 in
theorem gX3_isCommand_X3_digits : GoodIn wsX3_isCommand (wsV RX3 189 RX3 yX3_digits wsX3_digits) := goodIn_app (goodIn_of _ (by decide +kernel)) ggX3_isCommand_X3_digits
set_option maxRecDepth 20000 in
theorem ggX3_isCommand_X3_in : GoodIn wsX3_isCommand wsX3_in := goodIn_r _ [13] (by decide +kernel) (by decide +kernel)
set_option maxRecDepth 20000 in
theorem gX3_isCommand_X3_in : GoodIn wsX3_isCommand (va_wsS RX3 48 yX3_in wsX3_in) := goodIn_app (goodIn_of _ (by decide +kernel)) ggX3_isCommand_X3_in
theorem dX3_isCommand_0 : decode cX3_isCommand 0 = .ok (.aload_n 0, 1) := by decide +kernel
theorem dX3_isCommand_1 : decode cX3_isCommand 1 = .ok (.getfield 182, 3) := by decide +kernel
theorem dX3_isCommand_4 : decode cX3_isCommand 4 = .ok (.aload_n 0, 1) := by decide +kernel
theorem dX3_isCommand_5 : decode cX3_isCommand 5 = .ok (.getfield 179, 3) := by decide +kernel
theorem dX3_isCommand_8 : decode cX3_isCommand 8 = .ok (.if_icmp .ne 5, 3) := by decide +kernel
theorem dX3_isCommand_11 : decode cX3_isCommand 11 = .ok (.iconst 0, 1) := by decide +kernel
theorem dX3_isCommand_12 : decode cX3_isCommand 12 = .ok (.ireturn, 1) := by decide +kernel
theorem dX3_isCommand_13 : decode cX3_isCommand 13 = .ok (.aload_n 0, 1) := by decide +kernel
theorem dX3_isCommand_14 : decode cX3_isCommand 14 = .ok (.aload_n 0, 1) := by decide +kernel
theorem dX3_isCommand_15 : decode cX3_isCommand 15 = .ok (.getfield 29, 3) := by decide +kernel
theorem dX3_isCommand_18 : decode cX3_isCommand 18 = .ok (.aload_n 0, 1) := by decide +kernel
theorem dX3_isCommand_19 : decode cX3_isCommand 19 = .ok (.getfield 182, 3) := by decide +kernel
theorem dX3_isCommand_22 : decode cX3_isCommand 22 = .ok (.caload, 1) := by decide +kernel
theorem dX3_isCommand_23 : decode cX3_isCommand 23 = .ok (.putfield 185, 3) := by decide +kernel
theorem dX3_isCommand_26 : decode cX3_isCommand 26 = .ok (.aload_n 0, 1) := by decide +kernel
theorem dX3_isCommand_27 : decode cX3_isCommand 27 = .ok (.getfield 185, 3) := by decide +kernel
theorem dX3_isCommand_30 : decode cX3_isCommand 30 = .ok (.tableswitch 321 100 122 #[106, 321, 321, 321, 321, 321, 321, 106, 321, 106, 321, 321, 304, 321, 201, 321, 321, 321, 321, 123, 321, 321, 106], 106) := by decide +kernel
theorem dX3_isCommand_136 : decode cX3_isCommand 136 = .ok (.aload_n 0, 1) := by decide +kernel
theorem dX3_isCommand_137 : decode cX3_isCommand 137 = .ok (.dup, 1) := by decide +kernel
theorem dX3_isCommand_138 : decode cX3_isCommand 138 = .ok (.getfield 182, 3) := by decide +kernel
theorem dX3_isCommand_141 : decode cX3_isCommand 141 = .ok (.iconst 1, 1) := by decide +kernel
theorem dX3_isCommand_142 : decode cX3_isCommand 142 = .ok (.iadd, 1) := by decide +kernel
theorem dX3_isCommand_143 : decode cX3_isCommand 143 = .ok (.putfield 182, 3) := by decide +kernel
theorem dX3_isCommand_146 : decode cX3_isCommand 146 = .ok (.aload_n 0, 1) := by decide +kernel
theorem dX3_isCommand_147 : decode cX3_isCommand 147 = .ok (.iconst 0, 1) := by decide +kernel
theorem dX3_isCommand_148 : decode cX3_isCommand 148 = .ok (.iconst 1, 1) := by decide +kernel
theorem dX3_isCommand_149 : decode cX3_isCommand 149 = .ok (.invokevirtual 189, 3) := by decide +kernel
theorem dX3_isCommand_152 : decode cX3_isCommand 152 = .ok (.ireturn, 1) := by decide +kernel
theorem dX3_isCommand_153 : decode cX3_isCommand 153 = .ok (.aload_n 0, 1) := by decide +kernel
theorem dX3_isCommand_154 : decode cX3_isCommand 154 = .ok (.dup, 1) := by decide +kernel
theorem dX3_isCommand_155 : decode cX3_isCommand 155 = .ok (.getfield 182, 3) := by decide +kernel
theorem dX3_isCommand_158 : decode cX3_isCommand 158 = .ok (.iconst 1, 1) := by decide +kernel
theorem dX3_isCommand_159 : decode cX3_isCommand 159 = .ok (.iadd, 1) := by decide +kernel
theorem dX3_isCommand_160 : decode cX3_isCommand 160 = .ok (.putfield 182, 3) := by decide +kernel
theorem dX3_isCommand_163 : decode cX3_isCommand 163 = .ok (.aload_n 0, 1) := by decide +kernel
theorem dX3_isCommand_164 : decode cX3_isCommand 164 = .ok (.iconst 0, 1) := by decide +kernel
theorem dX3_isCommand_165 : decode cX3_isCommand 165 = .ok (.iconst 1, 1) := by decide +kernel
theorem dX3_isCommand_166 : decode cX3_isCommand 166 = .ok (.invokevirtual 189, 3) := by decide +kernel
theorem dX3_isCommand_169 : decode cX3_isCommand 169 = .ok (.ifCond .eq 33, 3) := by decide +kernel
theorem dX3_isCommand_172 : decode cX3_isCommand 172 = .ok (.aload_n 0, 1) := by decide +kernel
theorem dX3_isCommand_173 : decode cX3_isCommand 173 = .ok (.getfield 182, 3) := by decide +kernel
theorem dX3_isCommand_176 : decode cX3_isCommand 176 = .ok (.aload_n 0, 1) := by decide +kernel
theorem dX3_isCommand_177 : decode cX3_isCommand 177 = .ok (.getfield 179, 3) := by decide +kernel
theorem dX3_isCommand_180 : decode cX3_isCommand 180 = .ok (.if_icmp .eq 22, 3) := by decide +kernel
theorem dX3_isCommand_183 : decode cX3_isCommand 183 = .ok (.aload_n 0, 1) := by decide +kernel
theorem dX3_isCommand_184 : decode cX3_isCommand 184 = .ok (.getfield 29, 3) := by decide +kernel
theorem dX3_isCommand_187 : decode cX3_isCommand 187 = .ok (.aload_n 0, 1) := by decide +kernel
theorem dX3_isCommand_188 : decode cX3_isCommand 188 = .ok (.getfield 182, 3) := by decide +kernel
theorem dX3_isCommand_191 : decode cX3_isCommand 191 = .ok (.caload, 1) := by decide +kernel
theorem dX3_isCommand_192 : decode cX3_isCommand 192 = .ok (.bipush 97, 2) := by decide +kernel
theorem dX3_isCommand_194 : decode cX3_isCommand 194 = .ok (.bipush 100, 2) := by decide +kernel
theorem dX3_isCommand_196 : decode cX3_isCommand 196 = .ok (.invokestatic 48, 3) := by decide +kernel
theorem dX3_isCommand_199 : decode cX3_isCommand 199 = .ok (.ifCond .ne 5, 3) := by decide +kernel
theorem dX3_isCommand_202 : decode cX3_isCommand 202 = .ok (.iconst 0, 1) := by decide +kernel
theorem dX3_isCommand_203 : decode cX3_isCommand 203 = .ok (.ireturn, 1) := by decide +kernel
theorem dX3_isCommand_204 : decode cX3_isCommand 204 = .ok (.aload_n 0, 1) := by decide +kernel
theorem dX3_isCommand_205 : decode cX3_isCommand 205 = .ok (.getfield 32, 3) := by decide +kernel
theorem dX3_isCommand_208 : decode cX3_isCommand 208 = .ok (.iconst 1, 1) := by decide +kernel
theorem dX3_isCommand_209 : decode cX3_isCommand 209 = .ok (.aload_n 0, 1) := by decide +kernel
theorem dX3_isCommand_210 : decode cX3_isCommand 210 = .ok (.getfield 29, 3) := by decide +kernel
theorem dX3_isCommand_213 : decode cX3_isCommand 213 = .ok (.aload_n 0, 1) := by decide +kernel
theorem dX3_isCommand_214 : decode cX3_isCommand 214 = .ok (.dup, 1) := by decide +kernel
theorem dX3_isCommand_215 : decode cX3_isCommand 215 = .ok (.getfield 182, 3) := by decide +kernel
theorem dX3_isCommand_218 : decode cX3_isCommand 218 = .ok (.dup_x1, 1) := by decide +kernel
theorem dX3_isCommand_219 : decode cX3_isCommand 219 = .ok (.iconst 1, 1) := by decide +kernel
theorem dX3_isCommand_220 : decode cX3_isCommand 220 = .ok (.iadd, 1) := by decide +kernel
theorem dX3_isCommand_221 : decode cX3_isCommand 221 = .ok (.putfield 182, 3) := by decide +kernel
theorem dX3_isCommand_224 : decode cX3_isCommand 224 = .ok (.caload, 1) := by decide +kernel
theorem dX3_isCommand_225 : decode cX3_isCommand 225 = .ok (.bipush 97, 2) := by decide +kernel
theorem dX3_isCommand_227 : decode cX3_isCommand 227 = .ok (.isub, 1) := by decide +kernel
theorem dX3_isCommand_228 : decode cX3_isCommand 228 = .ok (.iastore, 1) := by decide +kernel
theorem dX3_isCommand_229 : decode cX3_isCommand 229 = .ok (.iconst 1, 1) := by decide +kernel
theorem dX3_isCommand_230 : decode cX3_isCommand 230 = .ok (.ireturn, 1) := by decide +kernel
theorem dX3_isCommand_231 : decode cX3_isCommand 231 = .ok (.aload_n 0, 1) := by decide +kernel
theorem dX3_isCommand_232 : decode cX3_isCommand 232 = .ok (.dup, 1) := by decide +kernel
theorem dX3_isCommand_233 : decode cX3_isCommand 233 = .ok (.getfield 182, 3) := by decide +kernel
theorem dX3_isCommand_236 : decode cX3_isCommand 236 = .ok (.iconst 1, 1) := by decide +kernel
theorem dX3_isCommand_237 : decode cX3_isCommand 237 = .ok (.iadd, 1) := by decide +kernel
theorem dX3_isCommand_238 : decode cX3_isCommand 238 = .ok (.putfield 182, 3) := by decide +kernel
theorem dX3_isCommand_241 : decode cX3_isCommand 241 = .ok (.aload_n 0, 1) := by decide +kernel
theorem dX3_isCommand_242 : decode cX3_isCommand 242 = .ok (.iconst 0, 1) := by decide +kernel
theorem dX3_isCommand_243 : decode cX3_isCommand 243 = .ok (.iconst 1, 1) := by decide +kernel
theorem dX3_isCommand_244 : decode cX3_isCommand 244 = .ok (.invokevirtual 189, 3) := by decide +kernel
theorem dX3_isCommand_247 : decode cX3_isCommand 247 = .ok (.ifCond .eq 51, 3) := by decide +kernel
theorem dX3_isCommand_250 : decode cX3_isCommand 250 = .ok (.aload_n 0, 1) := by decide +kernel
theorem dX3_isCommand_251 : decode cX3_isCommand 251 = .ok (.iconst 1, 1) := by decide +kernel
theorem dX3_isCommand_252 : decode cX3_isCommand 252 = .ok (.iconst 1, 1) := by decide +kernel
theorem dX3_isCommand_253 : decode cX3_isCommand 253 = .ok (.invokevirtual 189, 3) := by decide +kernel
theorem dX3_isCommand_256 : decode cX3_isCommand 256 = .ok (.ifCond .eq 42, 3) := by decide +kernel
theorem dX3_isCommand_259 : decode cX3_isCommand 259 = .ok (.aload_n 0, 1) := by decide +kernel
theorem dX3_isCommand_260 : decode cX3_isCommand 260 = .ok (.getfield 182, 3) := by decide +kernel
theorem dX3_isCommand_263 : decode cX3_isCommand 263 = .ok (.aload_n 0, 1) := by decide +kernel
theorem dX3_isCommand_264 : decode cX3_isCommand 264 = .ok (.getfield 179, 3) := by decide +kernel
theorem dX3_isCommand_267 : decode cX3_isCommand 267 = .ok (.if_icmp .eq 31, 3) := by decide +kernel
theorem dX3_isCommand_270 : decode cX3_isCommand 270 = .ok (.aload_n 0, 1) := by decide +kernel
theorem dX3_isCommand_271 : decode cX3_isCommand 271 = .ok (.getfield 29, 3) := by decide +kernel
theorem dX3_isCommand_274 : decode cX3_isCommand 274 = .ok (.aload_n 0, 1) := by decide +kernel
theorem dX3_isCommand_275 : decode cX3_isCommand 275 = .ok (.getfield 182, 3) := by decide +kernel
theorem dX3_isCommand_278 : decode cX3_isCommand 278 = .ok (.caload, 1) := by decide +kernel
theorem dX3_isCommand_279 : decode cX3_isCommand 279 = .ok (.bipush 43, 2) := by decide +kernel
theorem dX3_isCommand_281 : decode cX3_isCommand 281 = .ok (.if_icmp .eq 19, 3) := by decide +kernel
theorem dX3_isCommand_284 : decode cX3_isCommand 284 = .ok (.aload_n 0, 1) := by decide +kernel
theorem dX3_isCommand_285 : decode cX3_isCommand 285 = .ok (.getfield 29, 3) := by decide +kernel
theorem dX3_isCommand_288 : decode cX3_isCommand 288 = .ok (.aload_n 0, 1) := by decide +kernel
theorem dX3_isCommand_289 : decode cX3_isCommand 289 = .ok (.getfield 182, 3) := by decide +kernel
theorem dX3_isCommand_292 : decode cX3_isCommand 292 = .ok (.caload, 1) := by decide +kernel
theorem dX3_isCommand_293 : decode cX3_isCommand 293 = .ok (.bipush 45, 2) := by decide +kernel
theorem dX3_isCommand_295 : decode cX3_isCommand 295 = .ok (.if_icmp .eq 5, 3) := by decide +kernel
theorem dX3_isCommand_298 : decode cX3_isCommand 298 = .ok (.iconst 0, 1) := by decide +kernel
theorem dX3_isCommand_299 : decode cX3_isCommand 299 = .ok (.ireturn, 1) := by decide +kernel
theorem dX3_isCommand_300 : decode cX3_isCommand 300 = .ok (.aload_n 0, 1) := by decide +kernel
theorem dX3_isCommand_301 : decode cX3_isCommand 301 = .ok (.getfield 32, 3) := by decide +kernel
theorem dX3_isCommand_304 : decode cX3_isCommand 304 = .ok (.iconst 2, 1) := by decide +kernel
theorem dX3_isCommand_305 : decode cX3_isCommand 305 = .ok (.aload_n 0, 1) := by decide +kernel
theorem dX3_isCommand_306 : decode cX3_isCommand 306 = .ok (.getfield 29, 3) := by decide +kernel
theorem dX3_isCommand_309 : decode cX3_isCommand 309 = .ok (.aload_n 0, 1) := by decide +kernel
theorem dX3_isCommand_310 : decode cX3_isCommand 310 = .ok (.dup, 1) := by decide +kernel
theorem dX3_isCommand_311 : decode cX3_isCommand 311 = .ok (.getfield 182, 3) := by decide +kernel
theorem dX3_isCommand_314 : decode cX3_isCommand 314 = .ok (.dup_x1, 1) := by decide +kernel
theorem dX3_isCommand_315 : decode cX3_isCommand 315 = .ok (.iconst 1, 1) := by decide +kernel
theorem dX3_isCommand_316 : decode cX3_isCommand 316 = .ok (.iadd, 1) := by decide +kernel
theorem dX3_isCommand_317 : decode cX3_isCommand 317 = .ok (.putfield 182, 3) := by decide +kernel
theorem dX3_isCommand_320 : decode cX3_isCommand 320 = .ok (.caload, 1) := by decide +kernel
theorem dX3_isCommand_321 : decode cX3_isCommand 321 = .ok (.bipush 43, 2) := by decide +kernel
theorem dX3_isCommand_323 : decode cX3_isCommand 323 = .ok (.if_icmp .ne 7, 3) := by decide +kernel
theorem dX3_isCommand_326 : decode cX3_isCommand 326 = .ok (.iconst 1, 1) := by decide +kernel
theorem dX3_isCommand_327 : decode cX3_isCommand 327 = .ok (.goto 4, 3) := by decide +kernel
theorem dX3_isCommand_330 : decode cX3_isCommand 330 = .ok (.iconst 0, 1) := by decide +kernel
theorem dX3_isCommand_331 : decode cX3_isCommand 331 = .ok (.iastore, 1) := by decide +kernel
theorem dX3_isCommand_332 : decode cX3_isCommand 332 = .ok (.iconst 1, 1) := by decide +kernel
theorem dX3_isCommand_333 : decode cX3_isCommand 333 = .ok (.ireturn, 1) := by decide +kernel
theorem dX3_isCommand_334 : decode cX3_isCommand 334 = .ok (.aload_n 0, 1) := by decide +kernel
theorem dX3_isCommand_335 : decode cX3_isCommand 335 = .ok (.dup, 1) := by decide +kernel
theorem dX3_isCommand_336 : decode cX3_isCommand 336 = .ok (.getfield 182, 3) := by decide +kernel
theorem dX3_isCommand_339 : decode cX3_isCommand 339 = .ok (.iconst 1, 1) := by decide +kernel
theorem dX3_isCommand_340 : decode cX3_isCommand 340 = .ok (.iadd, 1) := by decide +kernel
theorem dX3_isCommand_341 : decode cX3_isCommand 341 = .ok (.putfield 182, 3) := by decide +kernel
theorem dX3_isCommand_344 : decode cX3_isCommand 344 = .ok (.aload_n 0, 1) := by decide +kernel
theorem dX3_isCommand_345 : decode cX3_isCommand 345 = .ok (.iconst 0, 1) := by decide +kernel
theorem dX3_isCommand_346 : decode cX3_isCommand 346 = .ok (.iconst 2, 1) := by decide +kernel
theorem dX3_isCommand_347 : decode cX3_isCommand 347 = .ok (.invokevirtual 189, 3) := by decide +kernel
theorem dX3_isCommand_350 : decode cX3_isCommand 350 = .ok (.ireturn, 1) := by decide +kernel
theorem dX3_isCommand_351 : decode cX3_isCommand 351 = .ok (.iconst 0, 1) := by decide +kernel
theorem dX3_isCommand_352 : decode cX3_isCommand 352 = .ok (.ireturn, 1) := by decide +kernel
set_option maxRecDepth 20000 in
theorem ggX3_carries_X3_dusks : GoodIn wsX3_carries wsX3_dusks := goodIn_r _ [7, 8, 9, 6, 10, 11, 12, 13, 14, 15, 16, 17, 18, 19, 20, 21, 22, 23, 24, 25, 26, 27, 28, 29, 30, 31, 32, 33, 34, 35, 36, 37, 38, 39, 40, 41, 42, 43, 44, 45, 46, 47, 48, 49, 50, 51, 52, 53, 54, 55, 56, 57, 58, 59, 60, 61, 62, 63, 64, 65, 66, 67, 120, 121, 122, 123, 124, 125, 126, 127, 128, 129, 130, 131, 132, 133, 134, 135, 136] (by decide +kernel) (by decide +kernel)
set_option maxRecDepth 20000 in
theorem gX3_carries_X3_dusks : GoodIn wsX3_carries (wsV RX3 109 RX3 yX3_dusks wsX3_dusks) := goodIn_app (goodIn_of _ (by decide +kernel)) ggX3_carries_X3_dusks
set_option maxRecDepth 20000 in
theorem ggX3_carries_X3_marches : GoodIn wsX3_carries wsX3_marches := goodIn_r _ [71, 8, 9, 6, 10, 11, 12, 13, 72, 73, 74, 75, 14, 15, 16, 17, 18, 19, 20, 21, 22, 23, 24, 25, 26, 27, 28, 29, 76, 77, 78, 79, 49, 50, 47, 51, 38, 39, 40, 41, 42, 43, 44, 45, 46, 48, 52, 53, 54, 55, 34, 35, 36, 37, 80, 81, 82, 83, 84, 85, 86, 87, 88, 89, 90, 91, 64, 65, 66, 67, 120, 121, 122, 123, 124, 125, 126, 127, 128, 129, 130, 131, 132, 133, 134, 135, 136] (by decide +kernel) (by decide +kernel)
set_option maxRecDepth 20000 in
theorem gX3_carries_X3_marches : GoodIn wsX3_carries (wsV RX3 130 RX3 yX3_marches wsX3_marches) := goodIn_app (goodIn_of _ (by decide +kernel)) ggX3_carries_X3_marches
set_option maxRecDepth 20000 in
theorem ggX3_carries_X3_sleeps : GoodIn wsX3_carries wsX3_sleeps := goodIn_r _ [95, 8, 9, 6, 10, 11, 12, 13, 18, 19, 20, 21, 22, 23, 24, 25, 26, 27, 28, 29, 34, 35, 36, 37, 96, 97, 98, 99, 14, 15, 16, 17, 120, 121, 122, 123, 124, 125, 126, 127, 128, 129, 130, 131, 132, 133, 134, 135, 136] (by decide +kernel) (by decide +kernel)
set_option maxRecDepth 20000 in
theorem gX3_carries_X3_sleeps : GoodIn wsX3_carries (wsV RX3 143 RX3 yX3_sleeps wsX3_sleeps) := goodIn_app (goodIn_of _ (by decide +kernel)) ggX3_carries_X3_sleeps
set_option maxRecDepth 20000 in
theorem ggX3_carries_X3_writes : GoodIn wsX3_carries wsX3_writes := goodIn_r _ [103, 22, 8, 9, 6, 10, 11, 12, 13, 72, 73, 74, 75, 14, 15, 16, 17, 18, 19, 20, 21, 23, 24, 25, 26, 27, 28, 29, 34, 35, 36, 37, 120, 121, 122, 123, 124, 125, 126, 127, 128, 129, 130, 131, 132, 133, 134, 135, 136] (by decide +kernel) (by decide +kernel)
set_option maxRecDepth 20000 in
theorem gX3_carries_X3_writes : GoodIn wsX3_carries (wsV RX3 118 RX3 yX3_writes wsX3_writes) := goodIn_app (goodIn_of _ (by decide +kernel)) ggX3_carries_X3_writes
set_option maxRecDepth 20000 in
theorem ggX3_carries_X3_opens : GoodIn wsX3_carries wsX3_opens := goodIn_r _ [107, 22, 8, 9, 6, 10, 11, 12, 13, 23, 24, 25, 26, 27, 28, 29, 42, 43, 44, 45, 46, 47, 48, 49, 50, 51, 108, 109, 110, 111, 120, 121, 122, 123, 124, 125, 126, 127, 128, 129, 130, 131, 132, 133, 134, 135, 136] (by decide +kernel) (by decide +kernel)
set_option maxRecDepth 20000 in
theorem gX3_carries_X3_opens : GoodIn wsX3_carries (wsV RX3 137 RX3 yX3_opens wsX3_opens) := goodIn_app (goodIn_of _ (by decide +kernel)) ggX3_carries_X3_opens
set_option maxRecDepth 20000 in
theorem ggX3_carries_X3_passes : GoodIn wsX3_carries wsX3_passes := goodIn_r _ [115, 22, 11, 12, 6, 13, 116, 117, 118, 119, 14, 15, 16, 17, 18, 19, 20, 21, 76, 77, 78, 79, 49, 50, 47, 51, 38, 39, 40, 41, 42, 43, 44, 45, 46, 48, 52, 53, 54, 55, 34, 35, 36, 37, 80, 81, 82, 83, 84, 85, 86, 87, 88, 89, 90, 91, 64, 65, 66, 67, 30, 31, 32, 33, 56, 57, 58, 59, 60, 61, 62, 63, 120, 121, 122, 123, 124, 125, 126, 127, 128, 129, 130, 131, 132, 133, 134, 135, 136] (by decide +kernel) (by decide +kernel)
set_option maxRecDepth 20000 in
theorem gX3_carries_X3_passes : GoodIn wsX3_carries (wsV RX3 149 RX3 yX3_passes wsX3_passes) := goodIn_app (goodIn_of _ (by decide +kernel)) ggX3_carries_X3_passes
theorem dX3_carries_0 : decode cX3_carries 0 = .ok (.aload_n 0, 1) := by decide +kernel
theorem dX3_carries_1 : decode cX3_carries 1 = .ok (.getfield 185, 3) := by decide +kernel
theorem dX3_carries_4 : decode cX3_carries 4 = .ok (.lookupswitch 146 #[(100, 60), (107, 94), (109, 71), (114, 123), (119, 106), (122, 82)], 60) := by decide +kernel
theorem dX3_carries_64 : decode cX3_carries 64 = .ok (.aload_n 0, 1) := by decide +kernel
theorem dX3_carries_65 : decode cX3_carries 65 = .ok (.aload_n 0, 1) := by decide +kernel
theorem dX3_carries_66 : decode cX3_carries 66 = .ok (.getfield 32, 3) := by decide +kernel
theorem dX3_carries_69 : decode cX3_carries 69 = .ok (.iconst 0, 1) := by decide +kernel
theorem dX3_carries_70 : decode cX3_carries 70 = .ok (.iaload, 1) := by decide +kernel
theorem dX3_carries_71 : decode cX3_carries 71 = .ok (.invokevirtual 109, 3) := by decide +kernel
theorem dX3_carries_74 : decode cX3_carries 74 = .ok (.ireturn, 1) := by decide +kernel
theorem dX3_carries_75 : decode cX3_carries 75 = .ok (.aload_n 0, 1) := by decide +kernel
theorem dX3_carries_76 : decode cX3_carries 76 = .ok (.aload_n 0, 1) := by decide +kernel
theorem dX3_carries_77 : decode cX3_carries 77 = .ok (.getfield 32, 3) := by decide +kernel
theorem dX3_carries_80 : decode cX3_carries 80 = .ok (.iconst 0, 1) := by decide +kernel
theorem dX3_carries_81 : decode cX3_carries 81 = .ok (.iaload, 1) := by decide +kernel
theorem dX3_carries_82 : decode cX3_carries 82 = .ok (.invokevirtual 130, 3) := by decide +kernel
theorem dX3_carries_85 : decode cX3_carries 85 = .ok (.ireturn, 1) := by decide +kernel
theorem dX3_carries_86 : decode cX3_carries 86 = .ok (.aload_n 0, 1) := by decide +kernel
theorem dX3_carries_87 : decode cX3_carries 87 = .ok (.aload_n 0, 1) := by decide +kernel
theorem dX3_carries_88 : decode cX3_carries 88 = .ok (.getfield 32, 3) := by decide +kernel
theorem dX3_carries_91 : decode cX3_carries 91 = .ok (.iconst 0, 1) := by decide +kernel
theorem dX3_carries_92 : decode cX3_carries 92 = .ok (.iaload, 1) := by decide +kernel
theorem dX3_carries_93 : decode cX3_carries 93 = .ok (.iconst 0, 1) := by decide +kernel
theorem dX3_carries_94 : decode cX3_carries 94 = .ok (.invokevirtual 143, 3) := by decide +kernel
theorem dX3_carries_97 : decode cX3_carries 97 = .ok (.ireturn, 1) := by decide +kernel
theorem dX3_carries_98 : decode cX3_carries 98 = .ok (.aload_n 0, 1) := by decide +kernel
theorem dX3_carries_99 : decode cX3_carries 99 = .ok (.aload_n 0, 1) := by decide +kernel
theorem dX3_carries_100 : decode cX3_carries 100 = .ok (.getfield 32, 3) := by decide +kernel
theorem dX3_carries_103 : decode cX3_carries 103 = .ok (.iconst 0, 1) := by decide +kernel
theorem dX3_carries_104 : decode cX3_carries 104 = .ok (.iaload, 1) := by decide +kernel
theorem dX3_carries_105 : decode cX3_carries 105 = .ok (.iconst 1, 1) := by decide +kernel
theorem dX3_carries_106 : decode cX3_carries 106 = .ok (.invokevirtual 143, 3) := by decide +kernel
theorem dX3_carries_109 : decode cX3_carries 109 = .ok (.ireturn, 1) := by decide +kernel
theorem dX3_carries_110 : decode cX3_carries 110 = .ok (.aload_n 0, 1) := by decide +kernel
theorem dX3_carries_111 : decode cX3_carries 111 = .ok (.aload_n 0, 1) := by decide +kernel
theorem dX3_carries_112 : decode cX3_carries 112 = .ok (.getfield 32, 3) := by decide +kernel
theorem dX3_carries_115 : decode cX3_carries 115 = .ok (.iconst 0, 1) := by decide +kernel
theorem dX3_carries_116 : decode cX3_carries 116 = .ok (.iaload, 1) := by decide +kernel
theorem dX3_carries_117 : decode cX3_carries 117 = .ok (.aload_n 0, 1) := by decide +kernel
theorem dX3_carries_118 : decode cX3_carries 118 = .ok (.getfield 32, 3) := by decide +kernel
theorem dX3_carries_121 : decode cX3_carries 121 = .ok (.iconst 1, 1) := by decide +kernel
theorem dX3_carries_122 : decode cX3_carries 122 = .ok (.iaload, 1) := by decide +kernel
theorem dX3_carries_123 : decode cX3_carries 123 = .ok (.invokevirtual 118, 3) := by decide +kernel
theorem dX3_carries_126 : decode cX3_carries 126 = .ok (.ireturn, 1) := by decide +kernel
theorem dX3_carries_127 : decode cX3_carries 127 = .ok (.aload_n 0, 1) := by decide +kernel
theorem dX3_carries_128 : decode cX3_carries 128 = .ok (.aload_n 0, 1) := by decide +kernel
theorem dX3_carries_129 : decode cX3_carries 129 = .ok (.getfield 32, 3) := by decide +kernel
theorem dX3_carries_132 : decode cX3_carries 132 = .ok (.iconst 0, 1) := by decide +kernel
theorem dX3_carries_133 : decode cX3_carries 133 = .ok (.iaload, 1) := by decide +kernel
theorem dX3_carries_134 : decode cX3_carries 134 = .ok (.aload_n 0, 1) := by decide +kernel
theorem dX3_carries_135 : decode cX3_carries 135 = .ok (.getfield 32, 3) := by decide +kernel
theorem dX3_carries_138 : decode cX3_carries 138 = .ok (.iconst 1, 1) := by decide +kernel
theorem dX3_carries_139 : decode cX3_carries 139 = .ok (.iaload, 1) := by decide +kernel
theorem dX3_carries_140 : decode cX3_carries 140 = .ok (.aload_n 0, 1) := by decide +kernel
theorem dX3_carries_141 : decode cX3_carries 141 = .ok (.getfield 32, 3) := by decide +kernel
theorem dX3_carries_144 : decode cX3_carries 144 = .ok (.iconst 2, 1) := by decide +kernel
theorem dX3_carries_145 : decode cX3_carries 145 = .ok (.iaload, 1) := by decide +kernel
theorem dX3_carries_146 : decode cX3_carries 146 = .ok (.invokevirtual 137, 3) := by decide +kernel
theorem dX3_carries_149 : decode cX3_carries 149 = .ok (.ireturn, 1) := by decide +kernel
theorem dX3_carries_150 : decode cX3_carries 150 = .ok (.aload_n 0, 1) := by decide +kernel
theorem dX3_carries_151 : decode cX3_carries 151 = .ok (.aload_n 0, 1) := by decide +kernel
theorem dX3_carries_152 : decode cX3_carries 152 = .ok (.getfield 32, 3) := by decide +kernel
theorem dX3_carries_155 : decode cX3_carries 155 = .ok (.iconst 0, 1) := by decide +kernel
theorem dX3_carries_156 : decode cX3_carries 156 = .ok (.iaload, 1) := by decide +kernel
theorem dX3_carries_157 : decode cX3_carries 157 = .ok (.invokevirtual 149, 3) := by decide +kernel
theorem dX3_carries_160 : decode cX3_carries 160 = .ok (.ireturn, 1) := by decide +kernel
set_option maxRecDepth 20000 in
theorem ggX3_read_X3_tries : GoodIn wsX3_read wsX3_tries := goodIn_r _ [8, 9, 10, 150, 151, 152, 153, 154, 155, 156, 157, 158, 159, 160, 161, 162, 163, 164, 165, 166] (by decide +kernel) (by decide +kernel)
set_option maxRecDepth 20000 in
theorem gX3_read_X3_tries : GoodIn wsX3_read (wsV RX3 106 RX3 yX3_tries wsX3_tries) := goodIn_app (goodIn_of _ (by decide +kernel)) ggX3_read_X3_tries
set_option maxRecDepth 20000 in
theorem ggX3_read_X3_isCommand : GoodIn wsX3_read wsX3_isCommand := goodIn_r _ [14, 1, 2, 15, 16, 17, 18, 19, 20, 7, 21, 22, 23, 24, 150, 151, 152, 153, 154, 155, 156, 157, 158, 159, 160, 161, 162, 163, 164, 165, 166] (by decide +kernel) (by decide +kernel)
set_option maxRecDepth 20000 in
theorem gX3_read_X3_isCommand : GoodIn wsX3_read (wsV RX3 192 RX3 yX3_isCommand wsX3_isCommand) := goodIn_app (goodIn_of _ (by decide +kernel)) ggX3_read_X3_isCommand
set_option maxRecDepth 20000 in
theorem ggX3_read_X3_takes : GoodIn wsX3_read wsX3_takes := goodIn_r _ [28, 1, 2, 15, 150, 151, 152, 153, 154, 155, 156, 157, 158, 159, 160, 161, 162, 163, 164, 165, 166] (by decide +kernel) (by decide +kernel)
set_option maxRecDepth 20000 in
theorem gX3_read_X3_takes : GoodIn wsX3_read (wsV RX3 195 RX3 yX3_takes wsX3_takes) := goodIn_app (goodIn_of _ (by decide +kernel)) ggX3_read_X3_takes
set_option maxRecDepth 20000 in
theorem ggX3_read_X3_carries : GoodIn wsX3_read wsX3_carries := goodIn_r _ [32, 16, 17, 33, 34, 35, 7, 36, 37, 38, 39, 22, 23, 24, 40, 41, 42, 43, 44, 45, 46, 47, 10, 48, 49, 50, 51, 52, 53, 3, 54, 55, 56, 57, 58, 59, 60, 61, 62, 63, 64, 65, 66, 67, 68, 69, 70, 71, 72, 73, 74, 75, 76, 77, 78, 79, 80, 81, 82, 83, 84, 85, 86, 87, 88, 89, 90, 91, 92, 93, 94, 95, 96, 97, 98, 99, 100, 101, 102, 103, 104, 105, 106, 107, 108, 109, 110, 111, 112, 113, 114, 115, 116, 117, 118, 119, 120, 121, 122, 123, 124, 125, 126, 127, 128, 129, 130, 131, 132, 133, 134, 135, 136, 137, 138, 139, 140, 141, 142, 143, 150, 151, 152, 153, 154, 155, 156, 157, 158, 159, 160, 161, 162, 163, 164, 165, 166] (by decide +kernel) (by decide +kernel)
set_option maxRecDepth 20000 in
theorem gX3_read_X3_carries : GoodIn wsX3_read (wsV RX3 199 RX3 yX3_carries wsX3_carries) := goodIn_app (goodIn_of _ (by decide +kernel)) ggX3_read_X3_carries
set_option maxRecDepth 20000 in
theorem ggX3_read_X3_ends : GoodIn wsX3_read wsX3_ends := goodIn_r _ [147, 10, 9, 148, 149, 150, 151, 152, 153, 154, 155, 156, 157, 158, 159, 160, 161, 162, 163, 164, 165, 166] (by decide +kernel) (by decide +kernel)
set_option maxRecDepth 20000 in
theorem gX3_read_X3_ends : GoodIn wsX3_read (wsV RX3 112 RX3 yX3_ends wsX3_ends) := goodIn_app (goodIn_of _ (by decide +kernel)) ggX3_read_X3_ends
theorem dX3_read_0 : decode cX3_read 0 = .ok (.aload_n 0, 1) := by decide +kernel
theorem dX3_read_1 : decode cX3_read 1 = .ok (.invokevirtual 106, 3) := by decide +kernel
theorem dX3_read_4 : decode cX3_read 4 = .ok (.aload_n 0, 1) := by decide +kernel
theorem dX3_read_5 : decode cX3_read 5 = .ok (.iconst 0, 1) := by decide +kernel
theorem dX3_read_6 : decode cX3_read 6 = .ok (.putfield 182, 3) := by decide +kernel
theorem dX3_read_9 : decode cX3_read 9 = .ok (.aload_n 0, 1) := by decide +kernel
theorem dX3_read_10 : decode cX3_read 10 = .ok (.invokevirtual 192, 3) := by decide +kernel
theorem dX3_read_13 : decode cX3_read 13 = .ok (.istore_n 1, 1) := by decide +kernel
theorem dX3_read_14 : decode cX3_read 14 = .ok (.iload_n 1, 1) := by decide +kernel
theorem dX3_read_15 : decode cX3_read 15 = .ok (.ifCond .eq 39, 3) := by decide +kernel
theorem dX3_read_18 : decode cX3_read 18 = .ok (.aload_n 0, 1) := by decide +kernel
theorem dX3_read_19 : decode cX3_read 19 = .ok (.getfield 182, 3) := by decide +kernel
theorem dX3_read_22 : decode cX3_read 22 = .ok (.aload_n 0, 1) := by decide +kernel
theorem dX3_read_23 : decode cX3_read 23 = .ok (.getfield 179, 3) := by decide +kernel
theorem dX3_read_26 : decode cX3_read 26 = .ok (.if_icmp .ge 28, 3) := by decide +kernel
theorem dX3_read_29 : decode cX3_read 29 = .ok (.aload_n 0, 1) := by decide +kernel
theorem dX3_read_30 : decode cX3_read 30 = .ok (.bipush 59, 2) := by decide +kernel
theorem dX3_read_32 : decode cX3_read 32 = .ok (.invokevirtual 195, 3) := by decide +kernel
theorem dX3_read_35 : decode cX3_read 35 = .ok (.ifCond .eq 14, 3) := by decide +kernel
theorem dX3_read_38 : decode cX3_read 38 = .ok (.aload_n 0, 1) := by decide +kernel
theorem dX3_read_39 : decode cX3_read 39 = .ok (.invokevirtual 192, 3) := by decide +kernel
theorem dX3_read_42 : decode cX3_read 42 = .ok (.ifCond .eq 7, 3) := by decide +kernel
theorem dX3_read_45 : decode cX3_read 45 = .ok (.iconst 1, 1) := by decide +kernel
theorem dX3_read_46 : decode cX3_read 46 = .ok (.goto 4, 3) := by decide +kernel
theorem dX3_read_49 : decode cX3_read 49 = .ok (.iconst 0, 1) := by decide +kernel
theorem dX3_read_50 : decode cX3_read 50 = .ok (.istore_n 1, 1) := by decide +kernel
theorem dX3_read_51 : decode cX3_read 51 = .ok (.goto (-37), 3) := by decide +kernel
theorem dX3_read_54 : decode cX3_read 54 = .ok (.iload_n 1, 1) := by decide +kernel
theorem dX3_read_55 : decode cX3_read 55 = .ok (.ifCond .ne 16, 3) := by decide +kernel
theorem dX3_read_58 : decode cX3_read 58 = .ok (.aload_n 0, 1) := by decide +kernel
theorem dX3_read_59 : decode cX3_read 59 = .ok (.iconst 0, 1) := by decide +kernel
theorem dX3_read_60 : decode cX3_read 60 = .ok (.putfield 179, 3) := by decide +kernel
theorem dX3_read_63 : decode cX3_read 63 = .ok (.bipush (-100), 2) := by decide +kernel
theorem dX3_read_65 : decode cX3_read 65 = .ok (.aload_n 0, 1) := by decide +kernel
theorem dX3_read_66 : decode cX3_read 66 = .ok (.getfield 182, 3) := by decide +kernel
theorem dX3_read_69 : decode cX3_read 69 = .ok (.isub, 1) := by decide +kernel
theorem dX3_read_70 : decode cX3_read 70 = .ok (.ireturn, 1) := by decide +kernel
theorem dX3_read_71 : decode cX3_read 71 = .ok (.aload_n 0, 1) := by decide +kernel
theorem dX3_read_72 : decode cX3_read 72 = .ok (.iconst 0, 1) := by decide +kernel
theorem dX3_read_73 : decode cX3_read 73 = .ok (.putfield 182, 3) := by decide +kernel
theorem dX3_read_76 : decode cX3_read 76 = .ok (.iconst 0, 1) := by decide +kernel
theorem dX3_read_77 : decode cX3_read 77 = .ok (.istore_n 2, 1) := by decide +kernel
theorem dX3_read_78 : decode cX3_read 78 = .ok (.iconst 0, 1) := by decide +kernel
theorem dX3_read_79 : decode cX3_read 79 = .ok (.istore_n 3, 1) := by decide +kernel
theorem dX3_read_80 : decode cX3_read 80 = .ok (.iconst 1, 1) := by decide +kernel
theorem dX3_read_81 : decode cX3_read 81 = .ok (.istore 4, 2) := by decide +kernel
theorem dX3_read_83 : decode cX3_read 83 = .ok (.iload 4, 2) := by decide +kernel
theorem dX3_read_85 : decode cX3_read 85 = .ok (.ifCond .eq 43, 3) := by decide +kernel
theorem dX3_read_88 : decode cX3_read 88 = .ok (.aload_n 0, 1) := by decide +kernel
theorem dX3_read_89 : decode cX3_read 89 = .ok (.invokevirtual 192, 3) := by decide +kernel
theorem dX3_read_92 : decode cX3_read 92 = .ok (.istore_n 1, 1) := by decide +kernel
theorem dX3_read_93 : decode cX3_read 93 = .ok (.aload_n 0, 1) := by decide +kernel
theorem dX3_read_94 : decode cX3_read 94 = .ok (.invokevirtual 199, 3) := by decide +kernel
theorem dX3_read_97 : decode cX3_read 97 = .ok (.istore_n 3, 1) := by decide +kernel
theorem dX3_read_98 : decode cX3_read 98 = .ok (.iload_n 3, 1) := by decide +kernel
theorem dX3_read_99 : decode cX3_read 99 = .ok (.ifCond .lt 6, 3) := by decide +kernel
theorem dX3_read_102 : decode cX3_read 102 = .ok (.iinc 2 1, 3) := by decide +kernel
theorem dX3_read_105 : decode cX3_read 105 = .ok (.iload_n 3, 1) := by decide +kernel
theorem dX3_read_106 : decode cX3_read 106 = .ok (.ifCond .lt 16, 3) := by decide +kernel
theorem dX3_read_109 : decode cX3_read 109 = .ok (.aload_n 0, 1) := by decide +kernel
theorem dX3_read_110 : decode cX3_read 110 = .ok (.bipush 59, 2) := by decide +kernel
theorem dX3_read_112 : decode cX3_read 112 = .ok (.invokevirtual 195, 3) := by decide +kernel
theorem dX3_read_115 : decode cX3_read 115 = .ok (.ifCond .eq 7, 3) := by decide +kernel
theorem dX3_read_118 : decode cX3_read 118 = .ok (.iconst 1, 1) := by decide +kernel
theorem dX3_read_119 : decode cX3_read 119 = .ok (.goto 4, 3) := by decide +kernel
theorem dX3_read_122 : decode cX3_read 122 = .ok (.iconst 0, 1) := by decide +kernel
theorem dX3_read_123 : decode cX3_read 123 = .ok (.istore 4, 2) := by decide +kernel
theorem dX3_read_125 : decode cX3_read 125 = .ok (.goto (-42), 3) := by decide +kernel
theorem dX3_read_128 : decode cX3_read 128 = .ok (.aload_n 0, 1) := by decide +kernel
theorem dX3_read_129 : decode cX3_read 129 = .ok (.iconst 0, 1) := by decide +kernel
theorem dX3_read_130 : decode cX3_read 130 = .ok (.putfield 179, 3) := by decide +kernel
theorem dX3_read_133 : decode cX3_read 133 = .ok (.iload_n 3, 1) := by decide +kernel
theorem dX3_read_134 : decode cX3_read 134 = .ok (.ifCond .lt 9, 3) := by decide +kernel
theorem dX3_read_137 : decode cX3_read 137 = .ok (.aload_n 0, 1) := by decide +kernel
theorem dX3_read_138 : decode cX3_read 138 = .ok (.iload_n 2, 1) := by decide +kernel
theorem dX3_read_139 : decode cX3_read 139 = .ok (.invokevirtual 112, 3) := by decide +kernel
theorem dX3_read_142 : decode cX3_read 142 = .ok (.ireturn, 1) := by decide +kernel
theorem dX3_read_143 : decode cX3_read 143 = .ok (.iload_n 3, 1) := by decide +kernel
theorem dX3_read_144 : decode cX3_read 144 = .ok (.bipush (-3), 2) := by decide +kernel
theorem dX3_read_146 : decode cX3_read 146 = .ok (.if_icmp .ne 8, 3) := by decide +kernel
theorem dX3_read_149 : decode cX3_read 149 = .ok (.aload_n 0, 1) := by decide +kernel
theorem dX3_read_150 : decode cX3_read 150 = .ok (.iload_n 2, 1) := by decide +kernel
theorem dX3_read_151 : decode cX3_read 151 = .ok (.putfield 35, 3) := by decide +kernel
theorem dX3_read_154 : decode cX3_read 154 = .ok (.aload_n 0, 1) := by decide +kernel
theorem dX3_read_155 : decode cX3_read 155 = .ok (.iload_n 3, 1) := by decide +kernel
theorem dX3_read_156 : decode cX3_read 156 = .ok (.bipush (-3), 2) := by decide +kernel
theorem dX3_read_158 : decode cX3_read 158 = .ok (.if_icmp .ne 8, 3) := by decide +kernel
theorem dX3_read_161 : decode cX3_read 161 = .ok (.bipush (-3), 2) := by decide +kernel
theorem dX3_read_163 : decode cX3_read 163 = .ok (.goto 5, 3) := by decide +kernel
theorem dX3_read_166 : decode cX3_read 166 = .ok (.bipush (-2), 2) := by decide +kernel
theorem dX3_read_168 : decode cX3_read 168 = .ok (.invokevirtual 112, 3) := by decide +kernel
theorem dX3_read_171 : decode cX3_read 171 = .ok (.ireturn, 1) := by decide +kernel
set_option maxRecDepth 20000 in
theorem ggX3_refusal_X3_in : GoodIn wsX3_refusal wsX3_in := goodIn_r _ [7] (by decide +kernel) (by decide +kernel)
set_option maxRecDepth 20000 in
theorem gX3_refusal_X3_in : GoodIn wsX3_refusal (va_wsS RX3 48 yX3_in wsX3_in) := goodIn_app (goodIn_of _ (by decide +kernel)) ggX3_refusal_X3_in
theorem dX3_refusal_0 : decode cX3_refusal 0 = .ok (.iload_n 1, 1) := by decide +kernel
theorem dX3_refusal_1 : decode cX3_refusal 1 = .ok (.iconst 0, 1) := by decide +kernel
theorem dX3_refusal_2 : decode cX3_refusal 2 = .ok (.iconst 2, 1) := by decide +kernel
theorem dX3_refusal_3 : decode cX3_refusal 3 = .ok (.invokestatic 48, 3) := by decide +kernel
theorem dX3_refusal_6 : decode cX3_refusal 6 = .ok (.ifCond .ne 6, 3) := by decide +kernel
theorem dX3_refusal_9 : decode cX3_refusal 9 = .ok (.bipush (-2), 2) := by decide +kernel
theorem dX3_refusal_11 : decode cX3_refusal 11 = .ok (.ireturn, 1) := by decide +kernel
theorem dX3_refusal_12 : decode cX3_refusal 12 = .ok (.aload_n 0, 1) := by decide +kernel
theorem dX3_refusal_13 : decode cX3_refusal 13 = .ok (.getfield 42, 3) := by decide +kernel
theorem dX3_refusal_16 : decode cX3_refusal 16 = .ok (.ifCond .ne 6, 3) := by decide +kernel
theorem dX3_refusal_19 : decode cX3_refusal 19 = .ok (.bipush (-4), 2) := by decide +kernel
theorem dX3_refusal_21 : decode cX3_refusal 21 = .ok (.ireturn, 1) := by decide +kernel
theorem dX3_refusal_22 : decode cX3_refusal 22 = .ok (.iload_n 1, 1) := by decide +kernel
theorem dX3_refusal_23 : decode cX3_refusal 23 = .ok (.ifCond .ne 10, 3) := by decide +kernel
theorem dX3_refusal_26 : decode cX3_refusal 26 = .ok (.aload_n 0, 1) := by decide +kernel
theorem dX3_refusal_27 : decode cX3_refusal 27 = .ok (.getfield 42, 3) := by decide +kernel
theorem dX3_refusal_30 : decode cX3_refusal 30 = .ok (.goto 19, 3) := by decide +kernel
theorem dX3_refusal_33 : decode cX3_refusal 33 = .ok (.iload_n 1, 1) := by decide +kernel
theorem dX3_refusal_34 : decode cX3_refusal 34 = .ok (.iconst 1, 1) := by decide +kernel
theorem dX3_refusal_35 : decode cX3_refusal 35 = .ok (.if_icmp .ne 10, 3) := by decide +kernel
theorem dX3_refusal_38 : decode cX3_refusal 38 = .ok (.aload_n 0, 1) := by decide +kernel
theorem dX3_refusal_39 : decode cX3_refusal 39 = .ok (.getfield 45, 3) := by decide +kernel
theorem dX3_refusal_42 : decode cX3_refusal 42 = .ok (.goto 7, 3) := by decide +kernel
theorem dX3_refusal_45 : decode cX3_refusal 45 = .ok (.aload_n 0, 1) := by decide +kernel
theorem dX3_refusal_46 : decode cX3_refusal 46 = .ok (.getfield 35, 3) := by decide +kernel
theorem dX3_refusal_49 : decode cX3_refusal 49 = .ok (.ireturn, 1) := by decide +kernel
set_option maxRecDepth 20000 in
theorem ggX3_account_X3_of : GoodIn wsX3_account wsX3_of := goodIn_r _ [12, 5, 25, 26, 27, 28, 29, 30, 31, 32, 33, 34, 35, 36, 37, 38, 39, 40, 41] (by decide +kernel) (by decide +kernel)
set_option maxRecDepth 20000 in
theorem gX3_account_X3_of : GoodIn wsX3_account (wsV RX3 52 RX3 yX3_of wsX3_of) := goodIn_app (goodIn_of _ (by decide +kernel)) ggX3_account_X3_of
set_option maxRecDepth 20000 in
theorem ggX3_account_X3_awake : GoodIn wsX3_account wsX3_awake := goodIn_r _ [16, 17, 18, 19, 11, 20, 8, 9, 10, 12, 5, 25, 26, 27, 28, 29, 30, 31, 32, 33, 34, 35, 36, 37, 38, 39, 40, 41] (by decide +kernel) (by decide +kernel)
set_option maxRecDepth 20000 in
theorem gX3_account_X3_awake : GoodIn wsX3_account (wsV RX3 140 RX3 yX3_awake wsX3_awake) := goodIn_app (goodIn_of _ (by decide +kernel)) ggX3_account_X3_awake
set_option maxRecDepth 20000 in
theorem ggX3_account_X3_openRoads : GoodIn wsX3_account wsX3_openRoads := goodIn_r _ [24, 5, 25, 26, 27, 28, 29, 30, 31, 32, 33, 34, 35, 36, 37, 38, 39, 40, 41] (by decide +kernel) (by decide +kernel)
set_option maxRecDepth 20000 in
theorem gX3_account_X3_openRoads : GoodIn wsX3_account (wsV RX3 133 RX3 yX3_openRoads wsX3_openRoads) := goodIn_app (goodIn_of _ (by decide +kernel)) ggX3_account_X3_openRoads
theorem dX3_account_0 : decode cX3_account 0 = .ok (.iconst 0, 1) := by decide +kernel
theorem dX3_account_1 : decode cX3_account 1 = .ok (.istore_n 2, 1) := by decide +kernel
theorem dX3_account_2 : decode cX3_account 2 = .ok (.iload_n 1, 1) := by decide +kernel
theorem dX3_account_3 : decode cX3_account 3 = .ok (.tableswitch 177 0 12 #[65, 91, 115, 120, 125, 125, 125, 125, 125, 134, 160, 167, 172], 65) := by decide +kernel
theorem dX3_account_68 : decode cX3_account 68 = .ok (.iconst 0, 1) := by decide +kernel
theorem dX3_account_69 : decode cX3_account 69 = .ok (.istore_n 3, 1) := by decide +kernel
theorem dX3_account_70 : decode cX3_account 70 = .ok (.iload_n 3, 1) := by decide +kernel
theorem dX3_account_71 : decode cX3_account 71 = .ok (.iconst 5, 1) := by decide +kernel
theorem dX3_account_72 : decode cX3_account 72 = .ok (.if_icmp .ge 20, 3) := by decide +kernel
theorem dX3_account_75 : decode cX3_account 75 = .ok (.iload_n 2, 1) := by decide +kernel
theorem dX3_account_76 : decode cX3_account 76 = .ok (.aload_n 0, 1) := by decide +kernel
theorem dX3_account_77 : decode cX3_account 77 = .ok (.iload_n 3, 1) := by decide +kernel
theorem dX3_account_78 : decode cX3_account 78 = .ok (.iconst 0, 1) := by decide +kernel
theorem dX3_account_79 : decode cX3_account 79 = .ok (.invokevirtual 52, 3) := by decide +kernel
theorem dX3_account_82 : decode cX3_account 82 = .ok (.invokestatic 61, 3) := by decide +kernel
theorem dX3_account_85 : decode cX3_account 85 = .ok (.istore_n 2, 1) := by decide +kernel
theorem dX3_account_86 : decode cX3_account 86 = .ok (.iinc 3 1, 3) := by decide +kernel
theorem dX3_account_89 : decode cX3_account 89 = .ok (.goto (-19), 3) := by decide +kernel
theorem dX3_account_92 : decode cX3_account 92 = .ok (.iload_n 2, 1) := by decide +kernel
theorem dX3_account_93 : decode cX3_account 93 = .ok (.ireturn, 1) := by decide +kernel
theorem dX3_account_94 : decode cX3_account 94 = .ok (.iconst 0, 1) := by decide +kernel
theorem dX3_account_95 : decode cX3_account 95 = .ok (.istore_n 3, 1) := by decide +kernel
theorem dX3_account_96 : decode cX3_account 96 = .ok (.iload_n 3, 1) := by decide +kernel
theorem dX3_account_97 : decode cX3_account 97 = .ok (.iconst 5, 1) := by decide +kernel
theorem dX3_account_98 : decode cX3_account 98 = .ok (.if_icmp .ge 18, 3) := by decide +kernel
theorem dX3_account_101 : decode cX3_account 101 = .ok (.iload_n 2, 1) := by decide +kernel
theorem dX3_account_102 : decode cX3_account 102 = .ok (.aload_n 0, 1) := by decide +kernel
theorem dX3_account_103 : decode cX3_account 103 = .ok (.iload_n 3, 1) := by decide +kernel
theorem dX3_account_104 : decode cX3_account 104 = .ok (.iconst 2, 1) := by decide +kernel
theorem dX3_account_105 : decode cX3_account 105 = .ok (.invokevirtual 52, 3) := by decide +kernel
theorem dX3_account_108 : decode cX3_account 108 = .ok (.iadd, 1) := by decide +kernel
theorem dX3_account_109 : decode cX3_account 109 = .ok (.istore_n 2, 1) := by decide +kernel
theorem dX3_account_110 : decode cX3_account 110 = .ok (.iinc 3 1, 3) := by decide +kernel
theorem dX3_account_113 : decode cX3_account 113 = .ok (.goto (-17), 3) := by decide +kernel
theorem dX3_account_116 : decode cX3_account 116 = .ok (.iload_n 2, 1) := by decide +kernel
theorem dX3_account_117 : decode cX3_account 117 = .ok (.ireturn, 1) := by decide +kernel
theorem dX3_account_118 : decode cX3_account 118 = .ok (.aload_n 0, 1) := by decide +kernel
theorem dX3_account_119 : decode cX3_account 119 = .ok (.invokevirtual 140, 3) := by decide +kernel
theorem dX3_account_122 : decode cX3_account 122 = .ok (.ireturn, 1) := by decide +kernel
theorem dX3_account_123 : decode cX3_account 123 = .ok (.aload_n 0, 1) := by decide +kernel
theorem dX3_account_124 : decode cX3_account 124 = .ok (.invokevirtual 133, 3) := by decide +kernel
theorem dX3_account_127 : decode cX3_account 127 = .ok (.ireturn, 1) := by decide +kernel
theorem dX3_account_128 : decode cX3_account 128 = .ok (.aload_n 0, 1) := by decide +kernel
theorem dX3_account_129 : decode cX3_account 129 = .ok (.getfield 9, 3) := by decide +kernel
theorem dX3_account_132 : decode cX3_account 132 = .ok (.iload_n 1, 1) := by decide +kernel
theorem dX3_account_133 : decode cX3_account 133 = .ok (.iconst 4, 1) := by decide +kernel
theorem dX3_account_134 : decode cX3_account 134 = .ok (.isub, 1) := by decide +kernel
theorem dX3_account_135 : decode cX3_account 135 = .ok (.iaload, 1) := by decide +kernel
theorem dX3_account_136 : decode cX3_account 136 = .ok (.ireturn, 1) := by decide +kernel
theorem dX3_account_137 : decode cX3_account 137 = .ok (.iconst 0, 1) := by decide +kernel
theorem dX3_account_138 : decode cX3_account 138 = .ok (.istore_n 3, 1) := by decide +kernel
theorem dX3_account_139 : decode cX3_account 139 = .ok (.iload_n 3, 1) := by decide +kernel
theorem dX3_account_140 : decode cX3_account 140 = .ok (.iconst 5, 1) := by decide +kernel
theorem dX3_account_141 : decode cX3_account 141 = .ok (.if_icmp .ge 20, 3) := by decide +kernel
theorem dX3_account_144 : decode cX3_account 144 = .ok (.iload_n 2, 1) := by decide +kernel
theorem dX3_account_145 : decode cX3_account 145 = .ok (.aload_n 0, 1) := by decide +kernel
theorem dX3_account_146 : decode cX3_account 146 = .ok (.iload_n 3, 1) := by decide +kernel
theorem dX3_account_147 : decode cX3_account 147 = .ok (.iconst 5, 1) := by decide +kernel
theorem dX3_account_148 : decode cX3_account 148 = .ok (.invokevirtual 52, 3) := by decide +kernel
theorem dX3_account_151 : decode cX3_account 151 = .ok (.invokestatic 61, 3) := by decide +kernel
theorem dX3_account_154 : decode cX3_account 154 = .ok (.istore_n 2, 1) := by decide +kernel
theorem dX3_account_155 : decode cX3_account 155 = .ok (.iinc 3 1, 3) := by decide +kernel
theorem dX3_account_158 : decode cX3_account 158 = .ok (.goto (-19), 3) := by decide +kernel
theorem dX3_account_161 : decode cX3_account 161 = .ok (.iload_n 2, 1) := by decide +kernel
theorem dX3_account_162 : decode cX3_account 162 = .ok (.ireturn, 1) := by decide +kernel
theorem dX3_account_163 : decode cX3_account 163 = .ok (.aload_n 0, 1) := by decide +kernel
theorem dX3_account_164 : decode cX3_account 164 = .ok (.getfield 9, 3) := by decide +kernel
theorem dX3_account_167 : decode cX3_account 167 = .ok (.iconst 5, 1) := by decide +kernel
theorem dX3_account_168 : decode cX3_account 168 = .ok (.iaload, 1) := by decide +kernel
theorem dX3_account_169 : decode cX3_account 169 = .ok (.ireturn, 1) := by decide +kernel
theorem dX3_account_170 : decode cX3_account 170 = .ok (.aload_n 0, 1) := by decide +kernel
theorem dX3_account_171 : decode cX3_account 171 = .ok (.getfield 179, 3) := by decide +kernel
theorem dX3_account_174 : decode cX3_account 174 = .ok (.ireturn, 1) := by decide +kernel
theorem dX3_account_175 : decode cX3_account 175 = .ok (.aload_n 0, 1) := by decide +kernel
theorem dX3_account_176 : decode cX3_account 176 = .ok (.getfield 39, 3) := by decide +kernel
theorem dX3_account_179 : decode cX3_account 179 = .ok (.ireturn, 1) := by decide +kernel
theorem dX3_account_180 : decode cX3_account 180 = .ok (.bipush (-2), 2) := by decide +kernel
theorem dX3_account_182 : decode cX3_account 182 = .ok (.ireturn, 1) := by decide +kernel
theorem dX3_isWell_0 : decode cX3_isWell 0 = .ok (.iconst 1, 1) := by decide +kernel
theorem dX3_isWell_1 : decode cX3_isWell 1 = .ok (.ireturn, 1) := by decide +kernel
set_option maxRecDepth 20000 in
theorem ggX3_share_X3_of : GoodIn wsX3_share wsX3_of := goodIn_r _ [5, 6, 19, 20, 21, 22, 23, 24, 25, 26, 27, 28, 29, 30, 31, 32, 33, 34, 35] (by decide +kernel) (by decide +kernel)
set_option maxRecDepth 20000 in
theorem gX3_share_X3_of : GoodIn wsX3_share (wsV RX3 52 RX3 yX3_of wsX3_of) := goodIn_app (goodIn_of _ (by decide +kernel)) ggX3_share_X3_of
set_option maxRecDepth 20000 in
theorem ggX3_share_Jxf58ca_floatToIntBits_5c35a : GoodIn wsX3_share wsJxf58ca_floatToIntBits_5c35a := goodIn_r _ [10, 11, 12, 13, 14, 15, 16, 17, 9, 18] (by decide +kernel) (by decide +kernel)
set_option maxRecDepth 20000 in
theorem gX3_share_Jxf58ca_floatToIntBits_5c35a : GoodIn wsX3_share (va_wsS RX3 202 yJxf58ca_floatToIntBits_5c35a wsJxf58ca_floatToIntBits_5c35a) := goodIn_app (goodIn_of _ (by decide +kernel)) ggX3_share_Jxf58ca_floatToIntBits_5c35a
theorem dX3_share_0 : decode cX3_share 0 = .ok (.iconst 0, 1) := by decide +kernel
theorem dX3_share_1 : decode cX3_share 1 = .ok (.istore_n 1, 1) := by decide +kernel
theorem dX3_share_2 : decode cX3_share 2 = .ok (.iconst 0, 1) := by decide +kernel
theorem dX3_share_3 : decode cX3_share 3 = .ok (.istore_n 2, 1) := by decide +kernel
theorem dX3_share_4 : decode cX3_share 4 = .ok (.iconst 0, 1) := by decide +kernel
theorem dX3_share_5 : decode cX3_share 5 = .ok (.istore_n 3, 1) := by decide +kernel
theorem dX3_share_6 : decode cX3_share 6 = .ok (.iload_n 3, 1) := by decide +kernel
theorem dX3_share_7 : decode cX3_share 7 = .ok (.iconst 5, 1) := by decide +kernel
