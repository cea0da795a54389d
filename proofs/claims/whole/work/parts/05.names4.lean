theorem dX2_passHours_43 : decode cX2_passHours 43 = .ok (.getfield 10, 3) := by decide +kernel
theorem dX2_passHours_46 : decode cX2_passHours 46 = .ok (.getfield 221, 3) := by decide +kernel
theorem dX2_passHours_49 : decode cX2_passHours 49 = .ok (.iload_n 2, 1) := by decide +kernel
theorem dX2_passHours_50 : decode cX2_passHours 50 = .ok (.isub, 1) := by decide +kernel
theorem dX2_passHours_51 : decode cX2_passHours 51 = .ok (.ireturn, 1) := by decide +kernel
set_option maxRecDepth 20000 in
theorem ggX2_carryOutCommand_X2_bringDusk : GoodIn wsX2_carryOutCommand wsX2_bringDusk := goodIn_r _ [10, 11, 12, 13, 14, 15, 16, 9, 17, 18, 19, 20, 21, 22, 23, 24, 25, 26, 27, 28, 29, 30, 31, 32, 33, 34, 35, 36, 37, 38, 39, 40, 41, 42, 43, 44, 45, 46, 47, 48, 49, 50, 51, 52, 53, 54, 55, 56, 135, 136, 137, 138, 139, 140, 141, 142, 143, 144, 145, 146, 147, 148, 155, 156, 157, 158, 159, 160, 161, 162, 163, 164, 165, 166, 167, 168, 169, 170] (by decide +kernel) (by decide +kernel)
set_option maxRecDepth 20000 in
theorem gX2_carryOutCommand_X2_bringDusk : GoodIn wsX2_carryOutCommand (wsV RX2 70 RX2 yX2_bringDusk wsX2_bringDusk) := goodIn_app (goodIn_of _ (by decide +kernel)) ggX2_carryOutCommand_X2_bringDusk
set_option maxRecDepth 20000 in
theorem ggX2_carryOutCommand_X2_writePage : GoodIn wsX2_carryOutCommand wsX2_writePage := goodIn_r _ [60, 11, 12, 13, 14, 61, 15, 16, 9, 17, 62, 63, 64, 18, 19, 20, 21, 22, 23, 24, 25, 65, 66, 67, 29, 68, 51, 56, 32, 69, 70, 135, 136, 137, 138, 139, 140, 141, 142, 143, 144, 145, 146, 147, 148, 155, 156, 157, 158, 159, 160, 161, 162, 163, 164, 165, 166, 167, 168, 169, 170] (by decide +kernel) (by decide +kernel)
set_option maxRecDepth 20000 in
theorem gX2_carryOutCommand_X2_writePage : GoodIn wsX2_carryOutCommand (wsV RX2 77 RX2 yX2_writePage wsX2_writePage) := goodIn_app (goodIn_of _ (by decide +kernel)) ggX2_carryOutCommand_X2_writePage
set_option maxRecDepth 20000 in
theorem ggX2_carryOutCommand_X2_sendCaptain : GoodIn wsX2_carryOutCommand wsX2_sendCaptain := goodIn_r _ [74, 11, 12, 13, 14, 75, 15, 16, 9, 17, 18, 19, 20, 21, 22, 23, 24, 25, 76, 77, 78, 29, 79, 80, 32, 37, 38, 39, 40, 41, 42, 43, 44, 45, 46, 33, 35, 81, 82, 83, 84, 34, 51, 85, 56, 69, 86, 87, 88, 89, 90, 91, 92, 93, 94, 95, 96, 97, 98, 52, 53, 54, 55, 135, 136, 137, 138, 139, 140, 141, 142, 143, 144, 145, 146, 147, 148, 155, 156, 157, 158, 159, 160, 161, 162, 163, 164, 165, 166, 167, 168, 169, 170] (by decide +kernel) (by decide +kernel)
set_option maxRecDepth 20000 in
theorem gX2_carryOutCommand_X2_sendCaptain : GoodIn wsX2_carryOutCommand (wsV RX2 81 RX2 yX2_sendCaptain wsX2_sendCaptain) := goodIn_app (goodIn_of _ (by decide +kernel)) ggX2_carryOutCommand_X2_sendCaptain
set_option maxRecDepth 20000 in
theorem ggX2_carryOutCommand_X2_turnRoad : GoodIn wsX2_carryOutCommand wsX2_turnRoad := goodIn_r _ [102, 11, 103, 15, 16, 9, 17, 104, 105, 106, 18, 19, 20, 21, 22, 23, 24, 25, 107, 108, 109, 29, 110, 42, 111, 112, 135, 136, 137, 138, 139, 140, 141, 142, 143, 144, 145, 146, 147, 148, 155, 156, 157, 158, 159, 160, 161, 162, 163, 164, 165, 166, 167, 168, 169, 170] (by decide +kernel) (by decide +kernel)
set_option maxRecDepth 20000 in
theorem gX2_carryOutCommand_X2_turnRoad : GoodIn wsX2_carryOutCommand (wsV RX2 84 RX2 yX2_turnRoad wsX2_turnRoad) := goodIn_app (goodIn_of _ (by decide +kernel)) ggX2_carryOutCommand_X2_turnRoad
set_option maxRecDepth 20000 in
theorem ggX2_carryOutCommand_X2_turnCamp : GoodIn wsX2_carryOutCommand wsX2_turnCamp := goodIn_r _ [116, 11, 12, 13, 117, 15, 16, 9, 17, 104, 105, 106, 18, 19, 20, 21, 22, 23, 24, 25, 118, 111, 112, 135, 136, 137, 138, 139, 140, 141, 142, 143, 144, 145, 146, 147, 148, 155, 156, 157, 158, 159, 160, 161, 162, 163, 164, 165, 166, 167, 168, 169, 170] (by decide +kernel) (by decide +kernel)
set_option maxRecDepth 20000 in
theorem gX2_carryOutCommand_X2_turnCamp : GoodIn wsX2_carryOutCommand (wsV RX2 88 RX2 yX2_turnCamp wsX2_turnCamp) := goodIn_app (goodIn_of _ (by decide +kernel)) ggX2_carryOutCommand_X2_turnCamp
set_option maxRecDepth 20000 in
theorem ggX2_carryOutCommand_X2_passHours : GoodIn wsX2_carryOutCommand wsX2_passHours := goodIn_r _ [122, 11, 123, 124, 125, 126, 29, 127, 128, 35, 34, 129, 77, 78, 79, 80, 32, 37, 38, 39, 40, 41, 42, 43, 44, 45, 46, 33, 81, 82, 83, 84, 51, 85, 56, 69, 86, 87, 88, 89, 90, 91, 92, 93, 94, 95, 96, 97, 98, 52, 53, 54, 55, 130, 131, 132, 133, 134, 27, 28, 30, 31, 36, 47, 48, 49, 50, 135, 136, 137, 138, 139, 140, 141, 142, 143, 144, 145, 146, 147, 148, 155, 156, 157, 158, 159, 160, 161, 162, 163, 164, 165, 166, 167, 168, 169, 170] (by decide +kernel) (by decide +kernel)
set_option maxRecDepth 20000 in
theorem gX2_carryOutCommand_X2_passHours : GoodIn wsX2_carryOutCommand (wsV RX2 91 RX2 yX2_passHours wsX2_passHours) := goodIn_app (goodIn_of _ (by decide +kernel)) ggX2_carryOutCommand_X2_passHours
theorem dX2_carryOutCommand_0 : decode cX2_carryOutCommand 0 = .ok (.aload_n 0, 1) := by decide +kernel
theorem dX2_carryOutCommand_1 : decode cX2_carryOutCommand 1 = .ok (.getfield 43, 3) := by decide +kernel
theorem dX2_carryOutCommand_4 : decode cX2_carryOutCommand 4 = .ok (.getfield 258, 3) := by decide +kernel
theorem dX2_carryOutCommand_7 : decode cX2_carryOutCommand 7 = .ok (.lookupswitch 152 #[(100, 57), (107, 139), (109, 88), (114, 100), (119, 69), (122, 126)], 57) := by decide +kernel
theorem dX2_carryOutCommand_64 : decode cX2_carryOutCommand 64 = .ok (.aload_n 0, 1) := by decide +kernel
theorem dX2_carryOutCommand_65 : decode cX2_carryOutCommand 65 = .ok (.aload_n 0, 1) := by decide +kernel
theorem dX2_carryOutCommand_66 : decode cX2_carryOutCommand 66 = .ok (.getfield 43, 3) := by decide +kernel
theorem dX2_carryOutCommand_69 : decode cX2_carryOutCommand 69 = .ok (.getfield 261, 3) := by decide +kernel
theorem dX2_carryOutCommand_72 : decode cX2_carryOutCommand 72 = .ok (.invokevirtual 70, 3) := by decide +kernel
theorem dX2_carryOutCommand_75 : decode cX2_carryOutCommand 75 = .ok (.ireturn, 1) := by decide +kernel
theorem dX2_carryOutCommand_76 : decode cX2_carryOutCommand 76 = .ok (.aload_n 0, 1) := by decide +kernel
theorem dX2_carryOutCommand_77 : decode cX2_carryOutCommand 77 = .ok (.aload_n 0, 1) := by decide +kernel
theorem dX2_carryOutCommand_78 : decode cX2_carryOutCommand 78 = .ok (.getfield 43, 3) := by decide +kernel
theorem dX2_carryOutCommand_81 : decode cX2_carryOutCommand 81 = .ok (.getfield 261, 3) := by decide +kernel
theorem dX2_carryOutCommand_84 : decode cX2_carryOutCommand 84 = .ok (.aload_n 0, 1) := by decide +kernel
theorem dX2_carryOutCommand_85 : decode cX2_carryOutCommand 85 = .ok (.getfield 43, 3) := by decide +kernel
theorem dX2_carryOutCommand_88 : decode cX2_carryOutCommand 88 = .ok (.getfield 264, 3) := by decide +kernel
theorem dX2_carryOutCommand_91 : decode cX2_carryOutCommand 91 = .ok (.invokevirtual 77, 3) := by decide +kernel
theorem dX2_carryOutCommand_94 : decode cX2_carryOutCommand 94 = .ok (.ireturn, 1) := by decide +kernel
theorem dX2_carryOutCommand_95 : decode cX2_carryOutCommand 95 = .ok (.aload_n 0, 1) := by decide +kernel
theorem dX2_carryOutCommand_96 : decode cX2_carryOutCommand 96 = .ok (.aload_n 0, 1) := by decide +kernel
theorem dX2_carryOutCommand_97 : decode cX2_carryOutCommand 97 = .ok (.getfield 43, 3) := by decide +kernel
theorem dX2_carryOutCommand_100 : decode cX2_carryOutCommand 100 = .ok (.getfield 261, 3) := by decide +kernel
theorem dX2_carryOutCommand_103 : decode cX2_carryOutCommand 103 = .ok (.invokevirtual 81, 3) := by decide +kernel
theorem dX2_carryOutCommand_106 : decode cX2_carryOutCommand 106 = .ok (.ireturn, 1) := by decide +kernel
theorem dX2_carryOutCommand_107 : decode cX2_carryOutCommand 107 = .ok (.aload_n 0, 1) := by decide +kernel
theorem dX2_carryOutCommand_108 : decode cX2_carryOutCommand 108 = .ok (.aload_n 0, 1) := by decide +kernel
theorem dX2_carryOutCommand_109 : decode cX2_carryOutCommand 109 = .ok (.getfield 43, 3) := by decide +kernel
theorem dX2_carryOutCommand_112 : decode cX2_carryOutCommand 112 = .ok (.getfield 261, 3) := by decide +kernel
theorem dX2_carryOutCommand_115 : decode cX2_carryOutCommand 115 = .ok (.aload_n 0, 1) := by decide +kernel
theorem dX2_carryOutCommand_116 : decode cX2_carryOutCommand 116 = .ok (.getfield 43, 3) := by decide +kernel
theorem dX2_carryOutCommand_119 : decode cX2_carryOutCommand 119 = .ok (.getfield 264, 3) := by decide +kernel
theorem dX2_carryOutCommand_122 : decode cX2_carryOutCommand 122 = .ok (.aload_n 0, 1) := by decide +kernel
theorem dX2_carryOutCommand_123 : decode cX2_carryOutCommand 123 = .ok (.getfield 43, 3) := by decide +kernel
theorem dX2_carryOutCommand_126 : decode cX2_carryOutCommand 126 = .ok (.getfield 267, 3) := by decide +kernel
theorem dX2_carryOutCommand_129 : decode cX2_carryOutCommand 129 = .ok (.invokevirtual 84, 3) := by decide +kernel
theorem dX2_carryOutCommand_132 : decode cX2_carryOutCommand 132 = .ok (.ireturn, 1) := by decide +kernel
theorem dX2_carryOutCommand_133 : decode cX2_carryOutCommand 133 = .ok (.aload_n 0, 1) := by decide +kernel
theorem dX2_carryOutCommand_134 : decode cX2_carryOutCommand 134 = .ok (.aload_n 0, 1) := by decide +kernel
theorem dX2_carryOutCommand_135 : decode cX2_carryOutCommand 135 = .ok (.getfield 43, 3) := by decide +kernel
theorem dX2_carryOutCommand_138 : decode cX2_carryOutCommand 138 = .ok (.getfield 261, 3) := by decide +kernel
theorem dX2_carryOutCommand_141 : decode cX2_carryOutCommand 141 = .ok (.iconst 0, 1) := by decide +kernel
theorem dX2_carryOutCommand_142 : decode cX2_carryOutCommand 142 = .ok (.invokevirtual 88, 3) := by decide +kernel
theorem dX2_carryOutCommand_145 : decode cX2_carryOutCommand 145 = .ok (.ireturn, 1) := by decide +kernel
theorem dX2_carryOutCommand_146 : decode cX2_carryOutCommand 146 = .ok (.aload_n 0, 1) := by decide +kernel
theorem dX2_carryOutCommand_147 : decode cX2_carryOutCommand 147 = .ok (.aload_n 0, 1) := by decide +kernel
theorem dX2_carryOutCommand_148 : decode cX2_carryOutCommand 148 = .ok (.getfield 43, 3) := by decide +kernel
theorem dX2_carryOutCommand_151 : decode cX2_carryOutCommand 151 = .ok (.getfield 261, 3) := by decide +kernel
theorem dX2_carryOutCommand_154 : decode cX2_carryOutCommand 154 = .ok (.iconst 1, 1) := by decide +kernel
theorem dX2_carryOutCommand_155 : decode cX2_carryOutCommand 155 = .ok (.invokevirtual 88, 3) := by decide +kernel
theorem dX2_carryOutCommand_158 : decode cX2_carryOutCommand 158 = .ok (.ireturn, 1) := by decide +kernel
theorem dX2_carryOutCommand_159 : decode cX2_carryOutCommand 159 = .ok (.aload_n 0, 1) := by decide +kernel
theorem dX2_carryOutCommand_160 : decode cX2_carryOutCommand 160 = .ok (.aload_n 0, 1) := by decide +kernel
theorem dX2_carryOutCommand_161 : decode cX2_carryOutCommand 161 = .ok (.getfield 43, 3) := by decide +kernel
theorem dX2_carryOutCommand_164 : decode cX2_carryOutCommand 164 = .ok (.getfield 261, 3) := by decide +kernel
theorem dX2_carryOutCommand_167 : decode cX2_carryOutCommand 167 = .ok (.invokevirtual 91, 3) := by decide +kernel
theorem dX2_carryOutCommand_170 : decode cX2_carryOutCommand 170 = .ok (.ireturn, 1) := by decide +kernel
theorem dX2_refuse_0 : decode cX2_refuse 0 = .ok (.aload_n 0, 1) := by decide +kernel
theorem dX2_refuse_1 : decode cX2_refuse 1 = .ok (.iload_n 1, 1) := by decide +kernel
theorem dX2_refuse_2 : decode cX2_refuse 2 = .ok (.putfield 57, 3) := by decide +kernel
theorem dX2_refuse_5 : decode cX2_refuse 5 = .ok (.aload_n 0, 1) := by decide +kernel
theorem dX2_refuse_6 : decode cX2_refuse 6 = .ok (.iload_n 2, 1) := by decide +kernel
theorem dX2_refuse_7 : decode cX2_refuse 7 = .ok (.putfield 60, 3) := by decide +kernel
theorem dX2_refuse_10 : decode cX2_refuse 10 = .ok (.aload_n 0, 1) := by decide +kernel
theorem dX2_refuse_11 : decode cX2_refuse 11 = .ok (.aload_n 0, 1) := by decide +kernel
theorem dX2_refuse_12 : decode cX2_refuse 12 = .ok (.getfield 54, 3) := by decide +kernel
theorem dX2_refuse_15 : decode cX2_refuse 15 = .ok (.putfield 63, 3) := by decide +kernel
theorem dX2_refuse_18 : decode cX2_refuse 18 = .ok (.bipush (-3), 2) := by decide +kernel
theorem dX2_refuse_20 : decode cX2_refuse 20 = .ok (.ireturn, 1) := by decide +kernel
set_option maxRecDepth 20000 in
theorem ggX2_finishChange_X0_copyFrom : GoodIn wsX2_finishChange wsX0_copyFrom := goodIn_r _ [13, 14, 15, 16, 17, 18, 19, 20, 21, 22, 23, 24, 25, 26, 27, 28, 29, 30, 31, 32, 33, 48, 49, 50, 51, 52, 53, 54, 55, 56, 57, 58, 59, 60, 61, 62, 63] (by decide +kernel) (by decide +kernel)
set_option maxRecDepth 20000 in
theorem gX2_finishChange_X0_copyFrom : GoodIn wsX2_finishChange (wsV RX2 66 RX0 yX0_copyFrom wsX0_copyFrom) := goodIn_app (goodIn_of _ (by decide +kernel)) ggX2_finishChange_X0_copyFrom
theorem dX2_finishChange_0 : decode cX2_finishChange 0 = .ok (.iload_n 1, 1) := by decide +kernel
theorem dX2_finishChange_1 : decode cX2_finishChange 1 = .ok (.ifCond .ge 5, 3) := by decide +kernel
theorem dX2_finishChange_4 : decode cX2_finishChange 4 = .ok (.iload_n 1, 1) := by decide +kernel
theorem dX2_finishChange_5 : decode cX2_finishChange 5 = .ok (.ireturn, 1) := by decide +kernel
theorem dX2_finishChange_6 : decode cX2_finishChange 6 = .ok (.aload_n 0, 1) := by decide +kernel
theorem dX2_finishChange_7 : decode cX2_finishChange 7 = .ok (.aload_n 0, 1) := by decide +kernel
theorem dX2_finishChange_8 : decode cX2_finishChange 8 = .ok (.getfield 33, 3) := by decide +kernel
theorem dX2_finishChange_11 : decode cX2_finishChange 11 = .ok (.iconst 1, 1) := by decide +kernel
theorem dX2_finishChange_12 : decode cX2_finishChange 12 = .ok (.iadd, 1) := by decide +kernel
theorem dX2_finishChange_13 : decode cX2_finishChange 13 = .ok (.bipush 8, 2) := by decide +kernel
theorem dX2_finishChange_15 : decode cX2_finishChange 15 = .ok (.irem, 1) := by decide +kernel
theorem dX2_finishChange_16 : decode cX2_finishChange 16 = .ok (.putfield 33, 3) := by decide +kernel
theorem dX2_finishChange_19 : decode cX2_finishChange 19 = .ok (.aload_n 0, 1) := by decide +kernel
theorem dX2_finishChange_20 : decode cX2_finishChange 20 = .ok (.getfield 29, 3) := by decide +kernel
theorem dX2_finishChange_23 : decode cX2_finishChange 23 = .ok (.aload_n 0, 1) := by decide +kernel
theorem dX2_finishChange_24 : decode cX2_finishChange 24 = .ok (.getfield 33, 3) := by decide +kernel
theorem dX2_finishChange_27 : decode cX2_finishChange 27 = .ok (.aaload, 1) := by decide +kernel
theorem dX2_finishChange_28 : decode cX2_finishChange 28 = .ok (.astore_n 2, 1) := by decide +kernel
theorem dX2_finishChange_29 : decode cX2_finishChange 29 = .ok (.aload_n 2, 1) := by decide +kernel
theorem dX2_finishChange_30 : decode cX2_finishChange 30 = .ok (.ifnull 11, 3) := by decide +kernel
theorem dX2_finishChange_33 : decode cX2_finishChange 33 = .ok (.aload_n 2, 1) := by decide +kernel
theorem dX2_finishChange_34 : decode cX2_finishChange 34 = .ok (.aload_n 0, 1) := by decide +kernel
theorem dX2_finishChange_35 : decode cX2_finishChange 35 = .ok (.getfield 16, 3) := by decide +kernel
theorem dX2_finishChange_38 : decode cX2_finishChange 38 = .ok (.invokevirtual 66, 3) := by decide +kernel
theorem dX2_finishChange_41 : decode cX2_finishChange 41 = .ok (.aload_n 0, 1) := by decide +kernel
theorem dX2_finishChange_42 : decode cX2_finishChange 42 = .ok (.aload_n 0, 1) := by decide +kernel
theorem dX2_finishChange_43 : decode cX2_finishChange 43 = .ok (.getfield 37, 3) := by decide +kernel
theorem dX2_finishChange_46 : decode cX2_finishChange 46 = .ok (.iconst 1, 1) := by decide +kernel
theorem dX2_finishChange_47 : decode cX2_finishChange 47 = .ok (.iadd, 1) := by decide +kernel
theorem dX2_finishChange_48 : decode cX2_finishChange 48 = .ok (.bipush 8, 2) := by decide +kernel
theorem dX2_finishChange_50 : decode cX2_finishChange 50 = .ok (.invokestatic 270, 3) := by decide +kernel
theorem dX2_finishChange_53 : decode cX2_finishChange 53 = .ok (.putfield 37, 3) := by decide +kernel
theorem dX2_finishChange_56 : decode cX2_finishChange 56 = .ok (.iload_n 1, 1) := by decide +kernel
theorem dX2_finishChange_57 : decode cX2_finishChange 57 = .ok (.ireturn, 1) := by decide +kernel
theorem dX2_isNoCamp_0 : decode cX2_isNoCamp 0 = .ok (.iload_n 0, 1) := by decide +kernel
theorem dX2_isNoCamp_1 : decode cX2_isNoCamp 1 = .ok (.ifCond .lt 8, 3) := by decide +kernel
theorem dX2_isNoCamp_4 : decode cX2_isNoCamp 4 = .ok (.iload_n 0, 1) := by decide +kernel
theorem dX2_isNoCamp_5 : decode cX2_isNoCamp 5 = .ok (.iconst 5, 1) := by decide +kernel
theorem dX2_isNoCamp_6 : decode cX2_isNoCamp 6 = .ok (.if_icmp .lt 7, 3) := by decide +kernel
theorem dX2_isNoCamp_9 : decode cX2_isNoCamp 9 = .ok (.iconst 1, 1) := by decide +kernel
theorem dX2_isNoCamp_10 : decode cX2_isNoCamp 10 = .ok (.goto 4, 3) := by decide +kernel
theorem dX2_isNoCamp_13 : decode cX2_isNoCamp 13 = .ok (.iconst 0, 1) := by decide +kernel
theorem dX2_isNoCamp_14 : decode cX2_isNoCamp 14 = .ok (.ireturn, 1) := by decide +kernel
theorem dX2_isNoLetter_0 : decode cX2_isNoLetter 0 = .ok (.iload_n 0, 1) := by decide +kernel
theorem dX2_isNoLetter_1 : decode cX2_isNoLetter 1 = .ok (.ifCond .lt 8, 3) := by decide +kernel
theorem dX2_isNoLetter_4 : decode cX2_isNoLetter 4 = .ok (.iload_n 0, 1) := by decide +kernel
theorem dX2_isNoLetter_5 : decode cX2_isNoLetter 5 = .ok (.iconst 4, 1) := by decide +kernel
theorem dX2_isNoLetter_6 : decode cX2_isNoLetter 6 = .ok (.if_icmp .lt 7, 3) := by decide +kernel
theorem dX2_isNoLetter_9 : decode cX2_isNoLetter 9 = .ok (.iconst 1, 1) := by decide +kernel
theorem dX2_isNoLetter_10 : decode cX2_isNoLetter 10 = .ok (.goto 4, 3) := by decide +kernel
theorem dX2_isNoLetter_13 : decode cX2_isNoLetter 13 = .ok (.iconst 0, 1) := by decide +kernel
theorem dX2_isNoLetter_14 : decode cX2_isNoLetter 14 = .ok (.ireturn, 1) := by decide +kernel
theorem dX2_isNoSwitch_0 : decode cX2_isNoSwitch 0 = .ok (.iload_n 0, 1) := by decide +kernel
theorem dX2_isNoSwitch_1 : decode cX2_isNoSwitch 1 = .ok (.ifCond .eq 12, 3) := by decide +kernel
theorem dX2_isNoSwitch_4 : decode cX2_isNoSwitch 4 = .ok (.iload_n 0, 1) := by decide +kernel
theorem dX2_isNoSwitch_5 : decode cX2_isNoSwitch 5 = .ok (.iconst 1, 1) := by decide +kernel
theorem dX2_isNoSwitch_6 : decode cX2_isNoSwitch 6 = .ok (.if_icmp .eq 7, 3) := by decide +kernel
theorem dX2_isNoSwitch_9 : decode cX2_isNoSwitch 9 = .ok (.iconst 1, 1) := by decide +kernel
theorem dX2_isNoSwitch_10 : decode cX2_isNoSwitch 10 = .ok (.goto 4, 3) := by decide +kernel
theorem dX2_isNoSwitch_13 : decode cX2_isNoSwitch 13 = .ok (.iconst 0, 1) := by decide +kernel
theorem dX2_isNoSwitch_14 : decode cX2_isNoSwitch 14 = .ok (.ireturn, 1) := by decide +kernel
set_option maxRecDepth 20000 in
theorem ggX2_isNoPage_X2_isNoCamp : GoodIn wsX2_isNoPage wsX2_isNoCamp := goodIn_r _ [6] (by decide +kernel) (by decide +kernel)
set_option maxRecDepth 20000 in
theorem gX2_isNoPage_X2_isNoCamp : GoodIn wsX2_isNoPage (va_wsS RX2 94 yX2_isNoCamp wsX2_isNoCamp) := goodIn_app (goodIn_of _ (by decide +kernel)) ggX2_isNoPage_X2_isNoCamp
theorem dX2_isNoPage_0 : decode cX2_isNoPage 0 = .ok (.iload_n 1, 1) := by decide +kernel
theorem dX2_isNoPage_1 : decode cX2_isNoPage 1 = .ok (.invokestatic 94, 3) := by decide +kernel
theorem dX2_isNoPage_4 : decode cX2_isNoPage 4 = .ok (.ifCond .ne 20, 3) := by decide +kernel
theorem dX2_isNoPage_7 : decode cX2_isNoPage 7 = .ok (.iload_n 2, 1) := by decide +kernel
theorem dX2_isNoPage_8 : decode cX2_isNoPage 8 = .ok (.ifCond .lt 16, 3) := by decide +kernel
theorem dX2_isNoPage_11 : decode cX2_isNoPage 11 = .ok (.iload_n 2, 1) := by decide +kernel
theorem dX2_isNoPage_12 : decode cX2_isNoPage 12 = .ok (.aload_n 0, 1) := by decide +kernel
theorem dX2_isNoPage_13 : decode cX2_isNoPage 13 = .ok (.getfield 10, 3) := by decide +kernel
theorem dX2_isNoPage_16 : decode cX2_isNoPage 16 = .ok (.getfield 111, 3) := by decide +kernel
theorem dX2_isNoPage_19 : decode cX2_isNoPage 19 = .ok (.iload_n 1, 1) := by decide +kernel
theorem dX2_isNoPage_20 : decode cX2_isNoPage 20 = .ok (.iaload, 1) := by decide +kernel
theorem dX2_isNoPage_21 : decode cX2_isNoPage 21 = .ok (.if_icmp .lt 7, 3) := by decide +kernel
theorem dX2_isNoPage_24 : decode cX2_isNoPage 24 = .ok (.iconst 1, 1) := by decide +kernel
theorem dX2_isNoPage_25 : decode cX2_isNoPage 25 = .ok (.goto 4, 3) := by decide +kernel
theorem dX2_isNoPage_28 : decode cX2_isNoPage 28 = .ok (.iconst 0, 1) := by decide +kernel
theorem dX2_isNoPage_29 : decode cX2_isNoPage 29 = .ok (.ireturn, 1) := by decide +kernel
set_option maxRecDepth 20000 in
theorem ggX2_appendPages_J4_append_cf468 : GoodIn wsX2_appendPages wsJ4_append_cf468 := goodIn_r _ [9, 10, 11, 12, 13, 14, 15, 16, 17, 18, 19, 20, 21, 22, 23, 24, 25, 26, 27, 28, 29, 30, 31, 32, 33, 34, 35, 36, 37, 38, 39, 40, 41, 42, 43, 44, 45, 46, 47, 48, 49, 50, 51, 52, 53, 54, 55, 56, 57, 58, 59, 60, 61, 62, 63, 64, 65, 66, 67, 68, 69, 70, 71, 72, 73, 74, 75, 76, 77, 78, 79, 80, 81, 82, 83, 84, 85, 86, 87, 88, 89, 90, 91, 92, 93, 94, 95, 96, 97, 98, 99, 100, 101, 102, 103, 104, 105, 106, 107, 108, 109, 110, 111, 112, 113, 114, 115, 116, 117, 118, 119, 120, 121, 186, 187, 188, 189] (by decide +kernel) (by decide +kernel)
set_option maxRecDepth 20000 in
theorem gX2_appendPages_J4_append_cf468 : GoodIn wsX2_appendPages (wsV RX2 176 RJ4 yJ4_append_cf468 wsJ4_append_cf468) := goodIn_app (goodIn_of _ (by decide +kernel)) ggX2_appendPages_J4_append_cf468
set_option maxRecDepth 20000 in
theorem ggX2_appendPages_J4_append_bf812 : GoodIn wsX2_appendPages wsJ4_append_bf812 := goodIn_r _ [125, 126, 127, 12, 128, 14, 129, 16, 17, 130, 131, 132, 133, 18, 19, 20, 21, 22, 23, 24, 25, 26, 27, 28, 29, 30, 31, 32, 33, 34, 35, 36, 37, 38, 39, 40, 41, 42, 43, 44, 45, 46, 47, 48, 49, 50, 51, 52, 53, 54, 55, 56, 57, 58, 59, 60, 61, 62, 63, 64, 65, 134, 135, 136, 137, 138, 139, 140, 77, 141, 107, 142, 143, 144, 92, 93, 94, 145, 146, 97, 147, 99, 148, 149, 102, 150, 151, 152, 153, 154, 155, 104, 105, 106, 108, 109, 186, 187, 188, 189] (by decide +kernel) (by decide +kernel)
set_option maxRecDepth 20000 in
theorem gX2_appendPages_J4_append_bf812 : GoodIn wsX2_appendPages (wsV RX2 172 RJ4 yJ4_append_bf812 wsJ4_append_bf812) := goodIn_app (goodIn_of _ (by decide +kernel)) ggX2_appendPages_J4_append_bf812
theorem dX2_appendPages_0 : decode cX2_appendPages 0 = .ok (.iload_n 1, 1) := by decide +kernel
theorem dX2_appendPages_1 : decode cX2_appendPages 1 = .ok (.bipush 12, 2) := by decide +kernel
theorem dX2_appendPages_3 : decode cX2_appendPages 3 = .ok (.imul, 1) := by decide +kernel
theorem dX2_appendPages_4 : decode cX2_appendPages 4 = .ok (.iload_n 2, 1) := by decide +kernel
theorem dX2_appendPages_5 : decode cX2_appendPages 5 = .ok (.iadd, 1) := by decide +kernel
theorem dX2_appendPages_6 : decode cX2_appendPages 6 = .ok (.istore 4, 2) := by decide +kernel
theorem dX2_appendPages_8 : decode cX2_appendPages 8 = .ok (.iload 4, 2) := by decide +kernel
theorem dX2_appendPages_10 : decode cX2_appendPages 10 = .ok (.iload_n 1, 1) := by decide +kernel
theorem dX2_appendPages_11 : decode cX2_appendPages 11 = .ok (.bipush 12, 2) := by decide +kernel
theorem dX2_appendPages_13 : decode cX2_appendPages 13 = .ok (.imul, 1) := by decide +kernel
theorem dX2_appendPages_14 : decode cX2_appendPages 14 = .ok (.iload_n 3, 1) := by decide +kernel
theorem dX2_appendPages_15 : decode cX2_appendPages 15 = .ok (.iadd, 1) := by decide +kernel
theorem dX2_appendPages_16 : decode cX2_appendPages 16 = .ok (.if_icmp .ge 44, 3) := by decide +kernel
theorem dX2_appendPages_19 : decode cX2_appendPages 19 = .ok (.aload_n 0, 1) := by decide +kernel
theorem dX2_appendPages_20 : decode cX2_appendPages 20 = .ok (.getfield 50, 3) := by decide +kernel
theorem dX2_appendPages_23 : decode cX2_appendPages 23 = .ok (.bipush 97, 2) := by decide +kernel
theorem dX2_appendPages_25 : decode cX2_appendPages 25 = .ok (.aload_n 0, 1) := by decide +kernel
theorem dX2_appendPages_26 : decode cX2_appendPages 26 = .ok (.getfield 10, 3) := by decide +kernel
theorem dX2_appendPages_29 : decode cX2_appendPages 29 = .ok (.getfield 130, 3) := by decide +kernel
theorem dX2_appendPages_32 : decode cX2_appendPages 32 = .ok (.iload 4, 2) := by decide +kernel
theorem dX2_appendPages_34 : decode cX2_appendPages 34 = .ok (.iaload, 1) := by decide +kernel
theorem dX2_appendPages_35 : decode cX2_appendPages 35 = .ok (.iadd, 1) := by decide +kernel
theorem dX2_appendPages_36 : decode cX2_appendPages 36 = .ok (.i2c, 1) := by decide +kernel
theorem dX2_appendPages_37 : decode cX2_appendPages 37 = .ok (.invokevirtual 176, 3) := by decide +kernel
theorem dX2_appendPages_40 : decode cX2_appendPages 40 = .ok (.aload_n 0, 1) := by decide +kernel
theorem dX2_appendPages_41 : decode cX2_appendPages 41 = .ok (.getfield 10, 3) := by decide +kernel
theorem dX2_appendPages_44 : decode cX2_appendPages 44 = .ok (.getfield 127, 3) := by decide +kernel
theorem dX2_appendPages_47 : decode cX2_appendPages 47 = .ok (.iload 4, 2) := by decide +kernel
theorem dX2_appendPages_49 : decode cX2_appendPages 49 = .ok (.iaload, 1) := by decide +kernel
theorem dX2_appendPages_50 : decode cX2_appendPages 50 = .ok (.invokevirtual 172, 3) := by decide +kernel
theorem dX2_appendPages_53 : decode cX2_appendPages 53 = .ok (.pop, 1) := by decide +kernel
theorem dX2_appendPages_54 : decode cX2_appendPages 54 = .ok (.iinc 4 1, 3) := by decide +kernel
theorem dX2_appendPages_57 : decode cX2_appendPages 57 = .ok (.goto (-49), 3) := by decide +kernel
theorem dX2_appendPages_60 : decode cX2_appendPages 60 = .ok (.return_, 1) := by decide +kernel
theorem dX2_sumOf_0 : decode cX2_sumOf 0 = .ok (.iconst 0, 1) := by decide +kernel
theorem dX2_sumOf_1 : decode cX2_sumOf 1 = .ok (.istore_n 1, 1) := by decide +kernel
theorem dX2_sumOf_2 : decode cX2_sumOf 2 = .ok (.aload_n 0, 1) := by decide +kernel
theorem dX2_sumOf_3 : decode cX2_sumOf 3 = .ok (.astore_n 2, 1) := by decide +kernel
theorem dX2_sumOf_4 : decode cX2_sumOf 4 = .ok (.aload_n 2, 1) := by decide +kernel
theorem dX2_sumOf_5 : decode cX2_sumOf 5 = .ok (.arraylength, 1) := by decide +kernel
theorem dX2_sumOf_6 : decode cX2_sumOf 6 = .ok (.istore_n 3, 1) := by decide +kernel
theorem dX2_sumOf_7 : decode cX2_sumOf 7 = .ok (.iconst 0, 1) := by decide +kernel
theorem dX2_sumOf_8 : decode cX2_sumOf 8 = .ok (.istore 4, 2) := by decide +kernel
theorem dX2_sumOf_10 : decode cX2_sumOf 10 = .ok (.iload 4, 2) := by decide +kernel
theorem dX2_sumOf_12 : decode cX2_sumOf 12 = .ok (.iload_n 3, 1) := by decide +kernel
theorem dX2_sumOf_13 : decode cX2_sumOf 13 = .ok (.if_icmp .ge 20, 3) := by decide +kernel
theorem dX2_sumOf_16 : decode cX2_sumOf 16 = .ok (.aload_n 2, 1) := by decide +kernel
theorem dX2_sumOf_17 : decode cX2_sumOf 17 = .ok (.iload 4, 2) := by decide +kernel
theorem dX2_sumOf_19 : decode cX2_sumOf 19 = .ok (.iaload, 1) := by decide +kernel
theorem dX2_sumOf_20 : decode cX2_sumOf 20 = .ok (.istore 5, 2) := by decide +kernel
theorem dX2_sumOf_22 : decode cX2_sumOf 22 = .ok (.iload_n 1, 1) := by decide +kernel
theorem dX2_sumOf_23 : decode cX2_sumOf 23 = .ok (.iload 5, 2) := by decide +kernel
theorem dX2_sumOf_25 : decode cX2_sumOf 25 = .ok (.iadd, 1) := by decide +kernel
theorem dX2_sumOf_26 : decode cX2_sumOf 26 = .ok (.istore_n 1, 1) := by decide +kernel
theorem dX2_sumOf_27 : decode cX2_sumOf 27 = .ok (.iinc 4 1, 3) := by decide +kernel
theorem dX2_sumOf_30 : decode cX2_sumOf 30 = .ok (.goto (-20), 3) := by decide +kernel
theorem dX2_sumOf_33 : decode cX2_sumOf 33 = .ok (.iload_n 1, 1) := by decide +kernel
theorem dX2_sumOf_34 : decode cX2_sumOf 34 = .ok (.ireturn, 1) := by decide +kernel
theorem dX2_greatestOf_0 : decode cX2_greatestOf 0 = .ok (.iconst 0, 1) := by decide +kernel
theorem dX2_greatestOf_1 : decode cX2_greatestOf 1 = .ok (.istore_n 1, 1) := by decide +kernel
theorem dX2_greatestOf_2 : decode cX2_greatestOf 2 = .ok (.aload_n 0, 1) := by decide +kernel
theorem dX2_greatestOf_3 : decode cX2_greatestOf 3 = .ok (.astore_n 2, 1) := by decide +kernel
theorem dX2_greatestOf_4 : decode cX2_greatestOf 4 = .ok (.aload_n 2, 1) := by decide +kernel
theorem dX2_greatestOf_5 : decode cX2_greatestOf 5 = .ok (.arraylength, 1) := by decide +kernel
theorem dX2_greatestOf_6 : decode cX2_greatestOf 6 = .ok (.istore_n 3, 1) := by decide +kernel
theorem dX2_greatestOf_7 : decode cX2_greatestOf 7 = .ok (.iconst 0, 1) := by decide +kernel
theorem dX2_greatestOf_8 : decode cX2_greatestOf 8 = .ok (.istore 4, 2) := by decide +kernel
theorem dX2_greatestOf_10 : decode cX2_greatestOf 10 = .ok (.iload 4, 2) := by decide +kernel
theorem dX2_greatestOf_12 : decode cX2_greatestOf 12 = .ok (.iload_n 3, 1) := by decide +kernel
theorem dX2_greatestOf_13 : decode cX2_greatestOf 13 = .ok (.if_icmp .ge 22, 3) := by decide +kernel
theorem dX2_greatestOf_16 : decode cX2_greatestOf 16 = .ok (.aload_n 2, 1) := by decide +kernel
theorem dX2_greatestOf_17 : decode cX2_greatestOf 17 = .ok (.iload 4, 2) := by decide +kernel
theorem dX2_greatestOf_19 : decode cX2_greatestOf 19 = .ok (.iaload, 1) := by decide +kernel
theorem dX2_greatestOf_20 : decode cX2_greatestOf 20 = .ok (.istore 5, 2) := by decide +kernel
theorem dX2_greatestOf_22 : decode cX2_greatestOf 22 = .ok (.iload_n 1, 1) := by decide +kernel
theorem dX2_greatestOf_23 : decode cX2_greatestOf 23 = .ok (.iload 5, 2) := by decide +kernel
theorem dX2_greatestOf_25 : decode cX2_greatestOf 25 = .ok (.invokestatic 275, 3) := by decide +kernel
theorem dX2_greatestOf_28 : decode cX2_greatestOf 28 = .ok (.istore_n 1, 1) := by decide +kernel
theorem dX2_greatestOf_29 : decode cX2_greatestOf 29 = .ok (.iinc 4 1, 3) := by decide +kernel
theorem dX2_greatestOf_32 : decode cX2_greatestOf 32 = .ok (.goto (-22), 3) := by decide +kernel
theorem dX2_greatestOf_35 : decode cX2_greatestOf 35 = .ok (.iload_n 1, 1) := by decide +kernel
theorem dX2_greatestOf_36 : decode cX2_greatestOf 36 = .ok (.ireturn, 1) := by decide +kernel
theorem dX2_bitsOf_0 : decode cX2_bitsOf 0 = .ok (.fload_n 0, 1) := by decide +kernel
theorem dX2_bitsOf_1 : decode cX2_bitsOf 1 = .ok (.fconst 0, 1) := by decide +kernel
theorem dX2_bitsOf_2 : decode cX2_bitsOf 2 = .ok (.fcmp .g, 1) := by decide +kernel
theorem dX2_bitsOf_3 : decode cX2_bitsOf 3 = .ok (.ifCond .gt 5, 3) := by decide +kernel
theorem dX2_bitsOf_6 : decode cX2_bitsOf 6 = .ok (.iconst 0, 1) := by decide +kernel
theorem dX2_bitsOf_7 : decode cX2_bitsOf 7 = .ok (.ireturn, 1) := by decide +kernel
theorem dX2_bitsOf_8 : decode cX2_bitsOf 8 = .ok (.bipush 127, 2) := by decide +kernel
theorem dX2_bitsOf_10 : decode cX2_bitsOf 10 = .ok (.istore_n 1, 1) := by decide +kernel
theorem dX2_bitsOf_11 : decode cX2_bitsOf 11 = .ok (.fload_n 0, 1) := by decide +kernel
theorem dX2_bitsOf_12 : decode cX2_bitsOf 12 = .ok (.fstore_n 2, 1) := by decide +kernel
theorem dX2_bitsOf_13 : decode cX2_bitsOf 13 = .ok (.fload_n 2, 1) := by decide +kernel
theorem dX2_bitsOf_14 : decode cX2_bitsOf 14 = .ok (.fconst 1, 1) := by decide +kernel
theorem dX2_bitsOf_15 : decode cX2_bitsOf 15 = .ok (.fcmp .g, 1) := by decide +kernel
theorem dX2_bitsOf_16 : decode cX2_bitsOf 16 = .ok (.ifCond .ge 18, 3) := by decide +kernel
theorem dX2_bitsOf_19 : decode cX2_bitsOf 19 = .ok (.iload_n 1, 1) := by decide +kernel
theorem dX2_bitsOf_20 : decode cX2_bitsOf 20 = .ok (.iconst 1, 1) := by decide +kernel
theorem dX2_bitsOf_21 : decode cX2_bitsOf 21 = .ok (.if_icmp .le 13, 3) := by decide +kernel
theorem dX2_bitsOf_24 : decode cX2_bitsOf 24 = .ok (.fload_n 2, 1) := by decide +kernel
theorem dX2_bitsOf_25 : decode cX2_bitsOf 25 = .ok (.fconst 2, 1) := by decide +kernel
theorem dX2_bitsOf_26 : decode cX2_bitsOf 26 = .ok (.fmul, 1) := by decide +kernel
theorem dX2_bitsOf_27 : decode cX2_bitsOf 27 = .ok (.fstore_n 2, 1) := by decide +kernel
theorem dX2_bitsOf_28 : decode cX2_bitsOf 28 = .ok (.iinc 1 (-1), 3) := by decide +kernel
theorem dX2_bitsOf_31 : decode cX2_bitsOf 31 = .ok (.goto (-18), 3) := by decide +kernel
theorem dX2_bitsOf_34 : decode cX2_bitsOf 34 = .ok (.iload_n 1, 1) := by decide +kernel
theorem dX2_bitsOf_35 : decode cX2_bitsOf 35 = .ok (.bipush 23, 2) := by decide +kernel
theorem dX2_bitsOf_37 : decode cX2_bitsOf 37 = .ok (.ishl, 1) := by decide +kernel
theorem dX2_bitsOf_38 : decode cX2_bitsOf 38 = .ok (.fload_n 2, 1) := by decide +kernel
theorem dX2_bitsOf_39 : decode cX2_bitsOf 39 = .ok (.fconst 1, 1) := by decide +kernel
theorem dX2_bitsOf_40 : decode cX2_bitsOf 40 = .ok (.fsub, 1) := by decide +kernel
theorem dX2_bitsOf_41 : decode cX2_bitsOf 41 = .ok (.ldc_w 278, 3) := by decide +kernel
theorem dX2_bitsOf_44 : decode cX2_bitsOf 44 = .ok (.fmul, 1) := by decide +kernel
theorem dX2_bitsOf_45 : decode cX2_bitsOf 45 = .ok (.f2i, 1) := by decide +kernel
theorem dX2_bitsOf_46 : decode cX2_bitsOf 46 = .ok (.iadd, 1) := by decide +kernel
theorem dX2_bitsOf_47 : decode cX2_bitsOf 47 = .ok (.ireturn, 1) := by decide +kernel
theorem dX3_init_0 : decode cX3_init 0 = .ok (.aload_n 0, 1) := by decide +kernel
theorem dX3_init_1 : decode cX3_init 1 = .ok (.invokespecial 3, 3) := by decide +kernel
theorem dX3_init_4 : decode cX3_init 4 = .ok (.aload_n 0, 1) := by decide +kernel
theorem dX3_init_5 : decode cX3_init 5 = .ok (.sipush 186, 3) := by decide +kernel
theorem dX3_init_8 : decode cX3_init 8 = .ok (.newarray .int, 2) := by decide +kernel
theorem dX3_init_10 : decode cX3_init 10 = .ok (.putfield 9, 3) := by decide +kernel
theorem dX3_init_13 : decode cX3_init 13 = .ok (.aload_n 0, 1) := by decide +kernel
theorem dX3_init_14 : decode cX3_init 14 = .ok (.sipush 186, 3) := by decide +kernel
theorem dX3_init_17 : decode cX3_init 17 = .ok (.newarray .int, 2) := by decide +kernel
theorem dX3_init_19 : decode cX3_init 19 = .ok (.putfield 13, 3) := by decide +kernel
theorem dX3_init_22 : decode cX3_init 22 = .ok (.aload_n 0, 1) := by decide +kernel
theorem dX3_init_23 : decode cX3_init 23 = .ok (.sipush 186, 3) := by decide +kernel
theorem dX3_init_26 : decode cX3_init 26 = .ok (.newarray .int, 2) := by decide +kernel
theorem dX3_init_28 : decode cX3_init 28 = .ok (.putfield 16, 3) := by decide +kernel
theorem dX3_init_31 : decode cX3_init 31 = .ok (.aload_n 0, 1) := by decide +kernel
theorem dX3_init_32 : decode cX3_init 32 = .ok (.sipush 1488, 3) := by decide +kernel
theorem dX3_init_35 : decode cX3_init 35 = .ok (.newarray .int, 2) := by decide +kernel
theorem dX3_init_37 : decode cX3_init 37 = .ok (.putfield 19, 3) := by decide +kernel
theorem dX3_init_40 : decode cX3_init 40 = .ok (.aload_n 0, 1) := by decide +kernel
theorem dX3_init_41 : decode cX3_init 41 = .ok (.sipush 186, 3) := by decide +kernel
theorem dX3_init_44 : decode cX3_init 44 = .ok (.newarray .int, 2) := by decide +kernel
theorem dX3_init_46 : decode cX3_init 46 = .ok (.putfield 22, 3) := by decide +kernel
theorem dX3_init_49 : decode cX3_init 49 = .ok (.aload_n 0, 1) := by decide +kernel
theorem dX3_init_50 : decode cX3_init 50 = .ok (.sipush 200, 3) := by decide +kernel
theorem dX3_init_53 : decode cX3_init 53 = .ok (.newarray .char, 2) := by decide +kernel
theorem dX3_init_55 : decode cX3_init 55 = .ok (.putfield 25, 3) := by decide +kernel
theorem dX3_init_58 : decode cX3_init 58 = .ok (.aload_n 0, 1) := by decide +kernel
theorem dX3_init_59 : decode cX3_init 59 = .ok (.bipush 70, 2) := by decide +kernel
theorem dX3_init_61 : decode cX3_init 61 = .ok (.newarray .char, 2) := by decide +kernel
theorem dX3_init_63 : decode cX3_init 63 = .ok (.putfield 29, 3) := by decide +kernel
theorem dX3_init_66 : decode cX3_init 66 = .ok (.aload_n 0, 1) := by decide +kernel
theorem dX3_init_67 : decode cX3_init 67 = .ok (.iconst 3, 1) := by decide +kernel
theorem dX3_init_68 : decode cX3_init 68 = .ok (.newarray .int, 2) := by decide +kernel
theorem dX3_init_70 : decode cX3_init 70 = .ok (.putfield 32, 3) := by decide +kernel
theorem dX3_init_73 : decode cX3_init 73 = .ok (.aload_n 0, 1) := by decide +kernel
theorem dX3_init_74 : decode cX3_init 74 = .ok (.bipush (-4), 2) := by decide +kernel
theorem dX3_init_76 : decode cX3_init 76 = .ok (.putfield 35, 3) := by decide +kernel
theorem dX3_init_79 : decode cX3_init 79 = .ok (.return_, 1) := by decide +kernel
theorem dX3_in_0 : decode cX3_in 0 = .ok (.iload_n 0, 1) := by decide +kernel
theorem dX3_in_1 : decode cX3_in 1 = .ok (.iload_n 1, 1) := by decide +kernel
theorem dX3_in_2 : decode cX3_in 2 = .ok (.if_icmp .lt 12, 3) := by decide +kernel
theorem dX3_in_5 : decode cX3_in 5 = .ok (.iload_n 0, 1) := by decide +kernel
theorem dX3_in_6 : decode cX3_in 6 = .ok (.iload_n 2, 1) := by decide +kernel
theorem dX3_in_7 : decode cX3_in 7 = .ok (.if_icmp .gt 7, 3) := by decide +kernel
theorem dX3_in_10 : decode cX3_in 10 = .ok (.iconst 1, 1) := by decide +kernel
theorem dX3_in_11 : decode cX3_in 11 = .ok (.goto 4, 3) := by decide +kernel
theorem dX3_in_14 : decode cX3_in 14 = .ok (.iconst 0, 1) := by decide +kernel
theorem dX3_in_15 : decode cX3_in 15 = .ok (.ireturn, 1) := by decide +kernel
theorem dX3_tries_0 : decode cX3_tries 0 = .ok (.iconst 0, 1) := by decide +kernel
theorem dX3_tries_1 : decode cX3_tries 1 = .ok (.istore_n 1, 1) := by decide +kernel
theorem dX3_tries_2 : decode cX3_tries 2 = .ok (.iload_n 1, 1) := by decide +kernel
theorem dX3_tries_3 : decode cX3_tries 3 = .ok (.sipush 186, 3) := by decide +kernel
theorem dX3_tries_6 : decode cX3_tries 6 = .ok (.if_icmp .ge 21, 3) := by decide +kernel
theorem dX3_tries_9 : decode cX3_tries 9 = .ok (.aload_n 0, 1) := by decide +kernel
theorem dX3_tries_10 : decode cX3_tries 10 = .ok (.getfield 13, 3) := by decide +kernel
theorem dX3_tries_13 : decode cX3_tries 13 = .ok (.iload_n 1, 1) := by decide +kernel
theorem dX3_tries_14 : decode cX3_tries 14 = .ok (.aload_n 0, 1) := by decide +kernel
theorem dX3_tries_15 : decode cX3_tries 15 = .ok (.getfield 9, 3) := by decide +kernel
theorem dX3_tries_18 : decode cX3_tries 18 = .ok (.iload_n 1, 1) := by decide +kernel
theorem dX3_tries_19 : decode cX3_tries 19 = .ok (.iaload, 1) := by decide +kernel
theorem dX3_tries_20 : decode cX3_tries 20 = .ok (.iastore, 1) := by decide +kernel
theorem dX3_tries_21 : decode cX3_tries 21 = .ok (.iinc 1 1, 3) := by decide +kernel
theorem dX3_tries_24 : decode cX3_tries 24 = .ok (.goto (-22), 3) := by decide +kernel
theorem dX3_tries_27 : decode cX3_tries 27 = .ok (.return_, 1) := by decide +kernel
theorem dX3_ends_0 : decode cX3_ends 0 = .ok (.iload_n 1, 1) := by decide +kernel
theorem dX3_ends_1 : decode cX3_ends 1 = .ok (.ifCond .ge 32, 3) := by decide +kernel
theorem dX3_ends_4 : decode cX3_ends 4 = .ok (.iconst 0, 1) := by decide +kernel
theorem dX3_ends_5 : decode cX3_ends 5 = .ok (.istore_n 2, 1) := by decide +kernel
theorem dX3_ends_6 : decode cX3_ends 6 = .ok (.iload_n 2, 1) := by decide +kernel
theorem dX3_ends_7 : decode cX3_ends 7 = .ok (.sipush 186, 3) := by decide +kernel
theorem dX3_ends_10 : decode cX3_ends 10 = .ok (.if_icmp .ge 21, 3) := by decide +kernel
theorem dX3_ends_13 : decode cX3_ends 13 = .ok (.aload_n 0, 1) := by decide +kernel
theorem dX3_ends_14 : decode cX3_ends 14 = .ok (.getfield 9, 3) := by decide +kernel
theorem dX3_ends_17 : decode cX3_ends 17 = .ok (.iload_n 2, 1) := by decide +kernel
theorem dX3_ends_18 : decode cX3_ends 18 = .ok (.aload_n 0, 1) := by decide +kernel
theorem dX3_ends_19 : decode cX3_ends 19 = .ok (.getfield 13, 3) := by decide +kernel
theorem dX3_ends_22 : decode cX3_ends 22 = .ok (.iload_n 2, 1) := by decide +kernel
theorem dX3_ends_23 : decode cX3_ends 23 = .ok (.iaload, 1) := by decide +kernel
theorem dX3_ends_24 : decode cX3_ends 24 = .ok (.iastore, 1) := by decide +kernel
theorem dX3_ends_25 : decode cX3_ends 25 = .ok (.iinc 2 1, 3) := by decide +kernel
theorem dX3_ends_28 : decode cX3_ends 28 = .ok (.goto (-22), 3) := by decide +kernel
theorem dX3_ends_31 : decode cX3_ends 31 = .ok (.iload_n 1, 1) := by decide +kernel
theorem dX3_ends_32 : decode cX3_ends 32 = .ok (.ireturn, 1) := by decide +kernel
theorem dX3_ends_33 : decode cX3_ends 33 = .ok (.aload_n 0, 1) := by decide +kernel
theorem dX3_ends_34 : decode cX3_ends 34 = .ok (.getfield 39, 3) := by decide +kernel
theorem dX3_ends_37 : decode cX3_ends 37 = .ok (.bipush 8, 2) := by decide +kernel
theorem dX3_ends_39 : decode cX3_ends 39 = .ok (.if_icmp .ne 44, 3) := by decide +kernel
theorem dX3_ends_42 : decode cX3_ends 42 = .ok (.iconst 0, 1) := by decide +kernel
theorem dX3_ends_43 : decode cX3_ends 43 = .ok (.istore_n 2, 1) := by decide +kernel
theorem dX3_ends_44 : decode cX3_ends 44 = .ok (.iload_n 2, 1) := by decide +kernel
theorem dX3_ends_45 : decode cX3_ends 45 = .ok (.sipush 1302, 3) := by decide +kernel
theorem dX3_ends_48 : decode cX3_ends 48 = .ok (.if_icmp .ge 25, 3) := by decide +kernel
theorem dX3_ends_51 : decode cX3_ends 51 = .ok (.aload_n 0, 1) := by decide +kernel
theorem dX3_ends_52 : decode cX3_ends 52 = .ok (.getfield 19, 3) := by decide +kernel
theorem dX3_ends_55 : decode cX3_ends 55 = .ok (.iload_n 2, 1) := by decide +kernel
theorem dX3_ends_56 : decode cX3_ends 56 = .ok (.aload_n 0, 1) := by decide +kernel
theorem dX3_ends_57 : decode cX3_ends 57 = .ok (.getfield 19, 3) := by decide +kernel
theorem dX3_ends_60 : decode cX3_ends 60 = .ok (.sipush 186, 3) := by decide +kernel
theorem dX3_ends_63 : decode cX3_ends 63 = .ok (.iload_n 2, 1) := by decide +kernel
theorem dX3_ends_64 : decode cX3_ends 64 = .ok (.iadd, 1) := by decide +kernel
theorem dX3_ends_65 : decode cX3_ends 65 = .ok (.iaload, 1) := by decide +kernel
theorem dX3_ends_66 : decode cX3_ends 66 = .ok (.iastore, 1) := by decide +kernel
theorem dX3_ends_67 : decode cX3_ends 67 = .ok (.iinc 2 1, 3) := by decide +kernel
theorem dX3_ends_70 : decode cX3_ends 70 = .ok (.goto (-26), 3) := by decide +kernel
theorem dX3_ends_73 : decode cX3_ends 73 = .ok (.aload_n 0, 1) := by decide +kernel
theorem dX3_ends_74 : decode cX3_ends 74 = .ok (.dup, 1) := by decide +kernel
theorem dX3_ends_75 : decode cX3_ends 75 = .ok (.getfield 39, 3) := by decide +kernel
theorem dX3_ends_78 : decode cX3_ends 78 = .ok (.iconst 1, 1) := by decide +kernel
theorem dX3_ends_79 : decode cX3_ends 79 = .ok (.isub, 1) := by decide +kernel
theorem dX3_ends_80 : decode cX3_ends 80 = .ok (.putfield 39, 3) := by decide +kernel
theorem dX3_ends_83 : decode cX3_ends 83 = .ok (.iconst 0, 1) := by decide +kernel
theorem dX3_ends_84 : decode cX3_ends 84 = .ok (.istore_n 2, 1) := by decide +kernel
theorem dX3_ends_85 : decode cX3_ends 85 = .ok (.iload_n 2, 1) := by decide +kernel
theorem dX3_ends_86 : decode cX3_ends 86 = .ok (.sipush 186, 3) := by decide +kernel
theorem dX3_ends_89 : decode cX3_ends 89 = .ok (.if_icmp .ge 30, 3) := by decide +kernel
theorem dX3_ends_92 : decode cX3_ends 92 = .ok (.aload_n 0, 1) := by decide +kernel
theorem dX3_ends_93 : decode cX3_ends 93 = .ok (.getfield 19, 3) := by decide +kernel
theorem dX3_ends_96 : decode cX3_ends 96 = .ok (.sipush 186, 3) := by decide +kernel
theorem dX3_ends_99 : decode cX3_ends 99 = .ok (.aload_n 0, 1) := by decide +kernel
theorem dX3_ends_100 : decode cX3_ends 100 = .ok (.getfield 39, 3) := by decide +kernel
theorem dX3_ends_103 : decode cX3_ends 103 = .ok (.imul, 1) := by decide +kernel
theorem dX3_ends_104 : decode cX3_ends 104 = .ok (.iload_n 2, 1) := by decide +kernel
theorem dX3_ends_105 : decode cX3_ends 105 = .ok (.iadd, 1) := by decide +kernel
theorem dX3_ends_106 : decode cX3_ends 106 = .ok (.aload_n 0, 1) := by decide +kernel
theorem dX3_ends_107 : decode cX3_ends 107 = .ok (.getfield 13, 3) := by decide +kernel
theorem dX3_ends_110 : decode cX3_ends 110 = .ok (.iload_n 2, 1) := by decide +kernel
theorem dX3_ends_111 : decode cX3_ends 111 = .ok (.iaload, 1) := by decide +kernel
theorem dX3_ends_112 : decode cX3_ends 112 = .ok (.iastore, 1) := by decide +kernel
theorem dX3_ends_113 : decode cX3_ends 113 = .ok (.iinc 2 1, 3) := by decide +kernel
theorem dX3_ends_116 : decode cX3_ends 116 = .ok (.goto (-31), 3) := by decide +kernel
theorem dX3_ends_119 : decode cX3_ends 119 = .ok (.aload_n 0, 1) := by decide +kernel
theorem dX3_ends_120 : decode cX3_ends 120 = .ok (.dup, 1) := by decide +kernel
theorem dX3_ends_121 : decode cX3_ends 121 = .ok (.getfield 39, 3) := by decide +kernel
theorem dX3_ends_124 : decode cX3_ends 124 = .ok (.iconst 1, 1) := by decide +kernel
theorem dX3_ends_125 : decode cX3_ends 125 = .ok (.iadd, 1) := by decide +kernel
theorem dX3_ends_126 : decode cX3_ends 126 = .ok (.putfield 39, 3) := by decide +kernel
theorem dX3_ends_129 : decode cX3_ends 129 = .ok (.iload_n 1, 1) := by decide +kernel
theorem dX3_ends_130 : decode cX3_ends 130 = .ok (.ireturn, 1) := by decide +kernel
theorem dX3_refuses_0 : decode cX3_refuses 0 = .ok (.aload_n 0, 1) := by decide +kernel
theorem dX3_refuses_1 : decode cX3_refuses 1 = .ok (.iload_n 1, 1) := by decide +kernel
theorem dX3_refuses_2 : decode cX3_refuses 2 = .ok (.putfield 42, 3) := by decide +kernel
theorem dX3_refuses_5 : decode cX3_refuses 5 = .ok (.aload_n 0, 1) := by decide +kernel
theorem dX3_refuses_6 : decode cX3_refuses 6 = .ok (.iload_n 2, 1) := by decide +kernel
theorem dX3_refuses_7 : decode cX3_refuses 7 = .ok (.putfield 45, 3) := by decide +kernel
theorem dX3_refuses_10 : decode cX3_refuses 10 = .ok (.aload_n 0, 1) := by decide +kernel
theorem dX3_refuses_11 : decode cX3_refuses 11 = .ok (.bipush (-4), 2) := by decide +kernel
theorem dX3_refuses_13 : decode cX3_refuses 13 = .ok (.putfield 35, 3) := by decide +kernel
theorem dX3_refuses_16 : decode cX3_refuses 16 = .ok (.bipush (-3), 2) := by decide +kernel
theorem dX3_refuses_18 : decode cX3_refuses 18 = .ok (.ireturn, 1) := by decide +kernel
set_option maxRecDepth 20000 in
theorem ggX3_isCamp_X3_in : GoodIn wsX3_isCamp wsX3_in := goodIn_r _ [4] (by decide +kernel) (by decide +kernel)
set_option maxRecDepth 20000 in
theorem gX3_isCamp_X3_in : GoodIn wsX3_isCamp (va_wsS RX3 48 yX3_in wsX3_in) := goodIn_app (goodIn_of _ (by decide +kernel)) ggX3_isCamp_X3_in
theorem dX3_isCamp_0 : decode cX3_isCamp 0 = .ok (.iload_n 0, 1) := by decide +kernel
theorem dX3_isCamp_1 : decode cX3_isCamp 1 = .ok (.iconst 0, 1) := by decide +kernel
theorem dX3_isCamp_2 : decode cX3_isCamp 2 = .ok (.iconst 4, 1) := by decide +kernel
theorem dX3_isCamp_3 : decode cX3_isCamp 3 = .ok (.invokestatic 48, 3) := by decide +kernel
theorem dX3_isCamp_6 : decode cX3_isCamp 6 = .ok (.ireturn, 1) := by decide +kernel
theorem dX3_of_0 : decode cX3_of 0 = .ok (.aload_n 0, 1) := by decide +kernel
theorem dX3_of_1 : decode cX3_of 1 = .ok (.getfield 9, 3) := by decide +kernel
theorem dX3_of_4 : decode cX3_of 4 = .ok (.bipush 31, 2) := by decide +kernel
theorem dX3_of_6 : decode cX3_of 6 = .ok (.bipush 31, 2) := by decide +kernel
theorem dX3_of_8 : decode cX3_of 8 = .ok (.iload_n 1, 1) := by decide +kernel
theorem dX3_of_9 : decode cX3_of 9 = .ok (.imul, 1) := by decide +kernel
theorem dX3_of_10 : decode cX3_of 10 = .ok (.iadd, 1) := by decide +kernel
theorem dX3_of_11 : decode cX3_of 11 = .ok (.iload_n 2, 1) := by decide +kernel
theorem dX3_of_12 : decode cX3_of 12 = .ok (.iadd, 1) := by decide +kernel
theorem dX3_of_13 : decode cX3_of 13 = .ok (.iaload, 1) := by decide +kernel
theorem dX3_of_14 : decode cX3_of 14 = .ok (.ireturn, 1) := by decide +kernel
theorem dX3_sets_0 : decode cX3_sets 0 = .ok (.aload_n 0, 1) := by decide +kernel
theorem dX3_sets_1 : decode cX3_sets 1 = .ok (.getfield 9, 3) := by decide +kernel
theorem dX3_sets_4 : decode cX3_sets 4 = .ok (.bipush 31, 2) := by decide +kernel
theorem dX3_sets_6 : decode cX3_sets 6 = .ok (.bipush 31, 2) := by decide +kernel
theorem dX3_sets_8 : decode cX3_sets 8 = .ok (.iload_n 1, 1) := by decide +kernel
theorem dX3_sets_9 : decode cX3_sets 9 = .ok (.imul, 1) := by decide +kernel
theorem dX3_sets_10 : decode cX3_sets 10 = .ok (.iadd, 1) := by decide +kernel
theorem dX3_sets_11 : decode cX3_sets 11 = .ok (.iload_n 2, 1) := by decide +kernel
theorem dX3_sets_12 : decode cX3_sets 12 = .ok (.iadd, 1) := by decide +kernel
theorem dX3_sets_13 : decode cX3_sets 13 = .ok (.iload_n 3, 1) := by decide +kernel
theorem dX3_sets_14 : decode cX3_sets 14 = .ok (.iastore, 1) := by decide +kernel
theorem dX3_sets_15 : decode cX3_sets 15 = .ok (.return_, 1) := by decide +kernel
set_option maxRecDepth 20000 in
theorem ggX3_page_X3_of : GoodIn wsX3_page wsX3_of := goodIn_r _ [5, 6, 7, 8, 9, 10, 11, 12, 13, 14, 15, 16, 17, 18, 19, 20, 21, 22, 23] (by decide +kernel) (by decide +kernel)
set_option maxRecDepth 20000 in
theorem gX3_page_X3_of : GoodIn wsX3_page (wsV RX3 52 RX3 yX3_of wsX3_of) := goodIn_app (goodIn_of _ (by decide +kernel)) ggX3_page_X3_of
theorem dX3_page_0 : decode cX3_page 0 = .ok (.aload_n 0, 1) := by decide +kernel
theorem dX3_page_1 : decode cX3_page 1 = .ok (.iload_n 1, 1) := by decide +kernel
theorem dX3_page_2 : decode cX3_page 2 = .ok (.bipush 7, 2) := by decide +kernel
theorem dX3_page_4 : decode cX3_page 4 = .ok (.iconst 2, 1) := by decide +kernel
theorem dX3_page_5 : decode cX3_page 5 = .ok (.iload_n 2, 1) := by decide +kernel
theorem dX3_page_6 : decode cX3_page 6 = .ok (.imul, 1) := by decide +kernel
theorem dX3_page_7 : decode cX3_page 7 = .ok (.iadd, 1) := by decide +kernel
theorem dX3_page_8 : decode cX3_page 8 = .ok (.iload_n 3, 1) := by decide +kernel
theorem dX3_page_9 : decode cX3_page 9 = .ok (.iadd, 1) := by decide +kernel
theorem dX3_page_10 : decode cX3_page 10 = .ok (.invokevirtual 52, 3) := by decide +kernel
theorem dX3_page_13 : decode cX3_page 13 = .ok (.ireturn, 1) := by decide +kernel
set_option maxRecDepth 20000 in
theorem ggX3_isAwake_X3_of : GoodIn wsX3_isAwake wsX3_of := goodIn_r _ [5, 6, 7, 8, 9, 10, 11, 12, 13, 14, 15, 16, 17, 18, 19, 20, 21, 22, 23] (by decide +kernel) (by decide +kernel)
set_option maxRecDepth 20000 in
theorem gX3_isAwake_X3_of : GoodIn wsX3_isAwake (wsV RX3 52 RX3 yX3_of wsX3_of) := goodIn_app (goodIn_of _ (by decide +kernel)) ggX3_isAwake_X3_of
theorem dX3_isAwake_0 : decode cX3_isAwake 0 = .ok (.aload_n 0, 1) := by decide +kernel
theorem dX3_isAwake_1 : decode cX3_isAwake 1 = .ok (.iload_n 1, 1) := by decide +kernel
theorem dX3_isAwake_2 : decode cX3_isAwake 2 = .ok (.iconst 3, 1) := by decide +kernel
theorem dX3_isAwake_3 : decode cX3_isAwake 3 = .ok (.invokevirtual 52, 3) := by decide +kernel
theorem dX3_isAwake_6 : decode cX3_isAwake 6 = .ok (.ifCond .ne 7, 3) := by decide +kernel
theorem dX3_isAwake_9 : decode cX3_isAwake 9 = .ok (.iconst 1, 1) := by decide +kernel
theorem dX3_isAwake_10 : decode cX3_isAwake 10 = .ok (.goto 4, 3) := by decide +kernel
theorem dX3_isAwake_13 : decode cX3_isAwake 13 = .ok (.iconst 0, 1) := by decide +kernel
theorem dX3_isAwake_14 : decode cX3_isAwake 14 = .ok (.ireturn, 1) := by decide +kernel
theorem dX3_road_0 : decode cX3_road 0 = .ok (.bipush 6, 2) := by decide +kernel
theorem dX3_road_2 : decode cX3_road 2 = .ok (.iconst 5, 1) := by decide +kernel
theorem dX3_road_3 : decode cX3_road 3 = .ok (.iload_n 0, 1) := by decide +kernel
theorem dX3_road_4 : decode cX3_road 4 = .ok (.iload_n 1, 1) := by decide +kernel
theorem dX3_road_5 : decode cX3_road 5 = .ok (.invokestatic 56, 3) := by decide +kernel
theorem dX3_road_8 : decode cX3_road 8 = .ok (.imul, 1) := by decide +kernel
theorem dX3_road_9 : decode cX3_road 9 = .ok (.iadd, 1) := by decide +kernel
theorem dX3_road_10 : decode cX3_road 10 = .ok (.iload_n 0, 1) := by decide +kernel
theorem dX3_road_11 : decode cX3_road 11 = .ok (.iload_n 1, 1) := by decide +kernel
theorem dX3_road_12 : decode cX3_road 12 = .ok (.invokestatic 61, 3) := by decide +kernel
theorem dX3_road_15 : decode cX3_road 15 = .ok (.iadd, 1) := by decide +kernel
theorem dX3_road_16 : decode cX3_road 16 = .ok (.ireturn, 1) := by decide +kernel
set_option maxRecDepth 20000 in
theorem ggX3_isReached_X3_isAwake : GoodIn wsX3_isReached wsX3_isAwake := goodIn_r _ [6, 7, 8, 9, 5, 10, 1, 21, 22, 23, 24, 25, 26, 27, 28, 29, 30, 31, 32, 33, 34, 35, 36, 37] (by decide +kernel) (by decide +kernel)
set_option maxRecDepth 20000 in
theorem gX3_isReached_X3_isAwake : GoodIn wsX3_isReached (wsV RX3 64 RX3 yX3_isAwake wsX3_isAwake) := goodIn_app (goodIn_of _ (by decide +kernel)) ggX3_isReached_X3_isAwake
set_option maxRecDepth 20000 in
theorem ggX3_isReached_X3_road : GoodIn wsX3_isReached wsX3_road := goodIn_r _ [13, 14, 15, 16, 17, 18, 19, 20] (by decide +kernel) (by decide +kernel)
set_option maxRecDepth 20000 in
theorem gX3_isReached_X3_road : GoodIn wsX3_isReached (va_wsS RX3 68 yX3_road wsX3_road) := goodIn_app (goodIn_of _ (by decide +kernel)) ggX3_isReached_X3_road
theorem dX3_isReached_0 : decode cX3_isReached 0 = .ok (.iload_n 1, 1) := by decide +kernel
theorem dX3_isReached_1 : decode cX3_isReached 1 = .ok (.iload_n 2, 1) := by decide +kernel
theorem dX3_isReached_2 : decode cX3_isReached 2 = .ok (.if_icmp .eq 36, 3) := by decide +kernel
theorem dX3_isReached_5 : decode cX3_isReached 5 = .ok (.aload_n 0, 1) := by decide +kernel
theorem dX3_isReached_6 : decode cX3_isReached 6 = .ok (.iload_n 1, 1) := by decide +kernel
theorem dX3_isReached_7 : decode cX3_isReached 7 = .ok (.invokevirtual 64, 3) := by decide +kernel
theorem dX3_isReached_10 : decode cX3_isReached 10 = .ok (.ifCond .eq 28, 3) := by decide +kernel
theorem dX3_isReached_13 : decode cX3_isReached 13 = .ok (.aload_n 0, 1) := by decide +kernel
theorem dX3_isReached_14 : decode cX3_isReached 14 = .ok (.iload_n 2, 1) := by decide +kernel
theorem dX3_isReached_15 : decode cX3_isReached 15 = .ok (.invokevirtual 64, 3) := by decide +kernel
theorem dX3_isReached_18 : decode cX3_isReached 18 = .ok (.ifCond .eq 20, 3) := by decide +kernel
theorem dX3_isReached_21 : decode cX3_isReached 21 = .ok (.aload_n 0, 1) := by decide +kernel
theorem dX3_isReached_22 : decode cX3_isReached 22 = .ok (.getfield 9, 3) := by decide +kernel
theorem dX3_isReached_25 : decode cX3_isReached 25 = .ok (.iload_n 1, 1) := by decide +kernel
theorem dX3_isReached_26 : decode cX3_isReached 26 = .ok (.iload_n 2, 1) := by decide +kernel
theorem dX3_isReached_27 : decode cX3_isReached 27 = .ok (.invokestatic 68, 3) := by decide +kernel
theorem dX3_isReached_30 : decode cX3_isReached 30 = .ok (.iaload, 1) := by decide +kernel
theorem dX3_isReached_31 : decode cX3_isReached 31 = .ok (.ifCond .ne 7, 3) := by decide +kernel
theorem dX3_isReached_34 : decode cX3_isReached 34 = .ok (.iconst 1, 1) := by decide +kernel
theorem dX3_isReached_35 : decode cX3_isReached 35 = .ok (.goto 4, 3) := by decide +kernel
theorem dX3_isReached_38 : decode cX3_isReached 38 = .ok (.iconst 0, 1) := by decide +kernel
theorem dX3_isReached_39 : decode cX3_isReached 39 = .ok (.ireturn, 1) := by decide +kernel
set_option maxRecDepth 20000 in
theorem ggX3_lastTerm_X3_of : GoodIn wsX3_lastTerm wsX3_of := goodIn_r _ [5, 6, 11, 12, 13, 14, 15, 16, 17, 18, 19, 20, 21, 22, 23, 24, 25, 26, 27] (by decide +kernel) (by decide +kernel)
set_option maxRecDepth 20000 in
theorem gX3_lastTerm_X3_of : GoodIn wsX3_lastTerm (wsV RX3 52 RX3 yX3_of wsX3_of) := goodIn_app (goodIn_of _ (by decide +kernel)) ggX3_lastTerm_X3_of
set_option maxRecDepth 20000 in
theorem ggX3_lastTerm_X3_page : GoodIn wsX3_lastTerm wsX3_page := goodIn_r _ [10, 1, 2, 3, 4, 5, 6, 11, 12, 13, 14, 15, 16, 17, 18, 19, 20, 21, 22, 23, 24, 25, 26, 27] (by decide +kernel) (by decide +kernel)
set_option maxRecDepth 20000 in
theorem gX3_lastTerm_X3_page : GoodIn wsX3_lastTerm (wsV RX3 71 RX3 yX3_page wsX3_page) := goodIn_app (goodIn_of _ (by decide +kernel)) ggX3_lastTerm_X3_page
theorem dX3_lastTerm_0 : decode cX3_lastTerm 0 = .ok (.aload_n 0, 1) := by decide +kernel
theorem dX3_lastTerm_1 : decode cX3_lastTerm 1 = .ok (.iload_n 1, 1) := by decide +kernel
theorem dX3_lastTerm_2 : decode cX3_lastTerm 2 = .ok (.bipush 6, 2) := by decide +kernel
theorem dX3_lastTerm_4 : decode cX3_lastTerm 4 = .ok (.invokevirtual 52, 3) := by decide +kernel
theorem dX3_lastTerm_7 : decode cX3_lastTerm 7 = .ok (.ifCond .ne 7, 3) := by decide +kernel
theorem dX3_lastTerm_10 : decode cX3_lastTerm 10 = .ok (.iconst 0, 1) := by decide +kernel
theorem dX3_lastTerm_11 : decode cX3_lastTerm 11 = .ok (.goto 18, 3) := by decide +kernel
theorem dX3_lastTerm_14 : decode cX3_lastTerm 14 = .ok (.aload_n 0, 1) := by decide +kernel
theorem dX3_lastTerm_15 : decode cX3_lastTerm 15 = .ok (.iload_n 1, 1) := by decide +kernel
theorem dX3_lastTerm_16 : decode cX3_lastTerm 16 = .ok (.aload_n 0, 1) := by decide +kernel
theorem dX3_lastTerm_17 : decode cX3_lastTerm 17 = .ok (.iload_n 1, 1) := by decide +kernel
theorem dX3_lastTerm_18 : decode cX3_lastTerm 18 = .ok (.bipush 6, 2) := by decide +kernel
theorem dX3_lastTerm_20 : decode cX3_lastTerm 20 = .ok (.invokevirtual 52, 3) := by decide +kernel
theorem dX3_lastTerm_23 : decode cX3_lastTerm 23 = .ok (.iconst 1, 1) := by decide +kernel
theorem dX3_lastTerm_24 : decode cX3_lastTerm 24 = .ok (.isub, 1) := by decide +kernel
theorem dX3_lastTerm_25 : decode cX3_lastTerm 25 = .ok (.iconst 0, 1) := by decide +kernel
theorem dX3_lastTerm_26 : decode cX3_lastTerm 26 = .ok (.invokevirtual 71, 3) := by decide +kernel
theorem dX3_lastTerm_29 : decode cX3_lastTerm 29 = .ok (.ireturn, 1) := by decide +kernel
set_option maxRecDepth 20000 in
theorem ggX3_isAsFar_X3_lastTerm : GoodIn wsX3_isAsFar wsX3_lastTerm := goodIn_r _ [5, 6, 7, 8, 4, 9, 10, 11, 12, 13, 14, 15, 16, 17, 18, 19, 20, 21, 22, 23, 24, 25, 26, 27, 28, 29, 30, 31] (by decide +kernel) (by decide +kernel)
set_option maxRecDepth 20000 in
theorem gX3_isAsFar_X3_lastTerm : GoodIn wsX3_isAsFar (wsV RX3 75 RX3 yX3_lastTerm wsX3_lastTerm) := goodIn_app (goodIn_of _ (by decide +kernel)) ggX3_isAsFar_X3_lastTerm
set_option maxRecDepth 20000 in
theorem ggX3_isAsFar_X3_of : GoodIn wsX3_isAsFar wsX3_of := goodIn_r _ [9, 10, 15, 16, 17, 18, 19, 20, 21, 22, 23, 24, 25, 26, 27, 28, 29, 30, 31] (by decide +kernel) (by decide +kernel)
set_option maxRecDepth 20000 in
theorem gX3_isAsFar_X3_of : GoodIn wsX3_isAsFar (wsV RX3 52 RX3 yX3_of wsX3_of) := goodIn_app (goodIn_of _ (by decide +kernel)) ggX3_isAsFar_X3_of
theorem dX3_isAsFar_0 : decode cX3_isAsFar 0 = .ok (.aload_n 0, 1) := by decide +kernel
theorem dX3_isAsFar_1 : decode cX3_isAsFar 1 = .ok (.iload_n 1, 1) := by decide +kernel
theorem dX3_isAsFar_2 : decode cX3_isAsFar 2 = .ok (.invokevirtual 75, 3) := by decide +kernel
theorem dX3_isAsFar_5 : decode cX3_isAsFar 5 = .ok (.aload_n 0, 1) := by decide +kernel
theorem dX3_isAsFar_6 : decode cX3_isAsFar 6 = .ok (.iload_n 2, 1) := by decide +kernel
theorem dX3_isAsFar_7 : decode cX3_isAsFar 7 = .ok (.invokevirtual 75, 3) := by decide +kernel
theorem dX3_isAsFar_10 : decode cX3_isAsFar 10 = .ok (.isub, 1) := by decide +kernel
theorem dX3_isAsFar_11 : decode cX3_isAsFar 11 = .ok (.istore_n 3, 1) := by decide +kernel
theorem dX3_isAsFar_12 : decode cX3_isAsFar 12 = .ok (.iload_n 3, 1) := by decide +kernel
theorem dX3_isAsFar_13 : decode cX3_isAsFar 13 = .ok (.ifCond .gt 24, 3) := by decide +kernel
theorem dX3_isAsFar_16 : decode cX3_isAsFar 16 = .ok (.iload_n 3, 1) := by decide +kernel
theorem dX3_isAsFar_17 : decode cX3_isAsFar 17 = .ok (.ifCond .ne 24, 3) := by decide +kernel
theorem dX3_isAsFar_20 : decode cX3_isAsFar 20 = .ok (.aload_n 0, 1) := by decide +kernel
theorem dX3_isAsFar_21 : decode cX3_isAsFar 21 = .ok (.iload_n 1, 1) := by decide +kernel
theorem dX3_isAsFar_22 : decode cX3_isAsFar 22 = .ok (.bipush 6, 2) := by decide +kernel
theorem dX3_isAsFar_24 : decode cX3_isAsFar 24 = .ok (.invokevirtual 52, 3) := by decide +kernel
theorem dX3_isAsFar_27 : decode cX3_isAsFar 27 = .ok (.aload_n 0, 1) := by decide +kernel
theorem dX3_isAsFar_28 : decode cX3_isAsFar 28 = .ok (.iload_n 2, 1) := by decide +kernel
theorem dX3_isAsFar_29 : decode cX3_isAsFar 29 = .ok (.bipush 6, 2) := by decide +kernel
theorem dX3_isAsFar_31 : decode cX3_isAsFar 31 = .ok (.invokevirtual 52, 3) := by decide +kernel
theorem dX3_isAsFar_34 : decode cX3_isAsFar 34 = .ok (.if_icmp .lt 7, 3) := by decide +kernel
theorem dX3_isAsFar_37 : decode cX3_isAsFar 37 = .ok (.iconst 1, 1) := by decide +kernel
theorem dX3_isAsFar_38 : decode cX3_isAsFar 38 = .ok (.goto 4, 3) := by decide +kernel
theorem dX3_isAsFar_41 : decode cX3_isAsFar 41 = .ok (.iconst 0, 1) := by decide +kernel
theorem dX3_isAsFar_42 : decode cX3_isAsFar 42 = .ok (.ireturn, 1) := by decide +kernel
set_option maxRecDepth 20000 in
theorem ggX3_isLike_X3_page : GoodIn wsX3_isLike wsX3_page := goodIn_r _ [5, 6, 7, 8, 4, 9, 10, 11, 12, 13, 14, 15, 16, 17, 18, 19, 20, 21, 22, 23, 24, 25, 26, 27] (by decide +kernel) (by decide +kernel)
set_option maxRecDepth 20000 in
theorem gX3_isLike_X3_page : GoodIn wsX3_isLike (wsV RX3 71 RX3 yX3_page wsX3_page) := goodIn_app (goodIn_of _ (by decide +kernel)) ggX3_isLike_X3_page
theorem dX3_isLike_0 : decode cX3_isLike 0 = .ok (.aload_n 0, 1) := by decide +kernel
theorem dX3_isLike_1 : decode cX3_isLike 1 = .ok (.iload_n 1, 1) := by decide +kernel
theorem dX3_isLike_2 : decode cX3_isLike 2 = .ok (.iload_n 3, 1) := by decide +kernel
theorem dX3_isLike_3 : decode cX3_isLike 3 = .ok (.iconst 0, 1) := by decide +kernel
theorem dX3_isLike_4 : decode cX3_isLike 4 = .ok (.invokevirtual 71, 3) := by decide +kernel
theorem dX3_isLike_7 : decode cX3_isLike 7 = .ok (.aload_n 0, 1) := by decide +kernel
theorem dX3_isLike_8 : decode cX3_isLike 8 = .ok (.iload_n 2, 1) := by decide +kernel
theorem dX3_isLike_9 : decode cX3_isLike 9 = .ok (.iload_n 3, 1) := by decide +kernel
theorem dX3_isLike_10 : decode cX3_isLike 10 = .ok (.iconst 0, 1) := by decide +kernel
theorem dX3_isLike_11 : decode cX3_isLike 11 = .ok (.invokevirtual 71, 3) := by decide +kernel
theorem dX3_isLike_14 : decode cX3_isLike 14 = .ok (.if_icmp .ne 24, 3) := by decide +kernel
theorem dX3_isLike_17 : decode cX3_isLike 17 = .ok (.aload_n 0, 1) := by decide +kernel
theorem dX3_isLike_18 : decode cX3_isLike 18 = .ok (.iload_n 1, 1) := by decide +kernel
theorem dX3_isLike_19 : decode cX3_isLike 19 = .ok (.iload_n 3, 1) := by decide +kernel
theorem dX3_isLike_20 : decode cX3_isLike 20 = .ok (.iconst 1, 1) := by decide +kernel
theorem dX3_isLike_21 : decode cX3_isLike 21 = .ok (.invokevirtual 71, 3) := by decide +kernel
theorem dX3_isLike_24 : decode cX3_isLike 24 = .ok (.aload_n 0, 1) := by decide +kernel
theorem dX3_isLike_25 : decode cX3_isLike 25 = .ok (.iload_n 2, 1) := by decide +kernel
theorem dX3_isLike_26 : decode cX3_isLike 26 = .ok (.iload_n 3, 1) := by decide +kernel
theorem dX3_isLike_27 : decode cX3_isLike 27 = .ok (.iconst 1, 1) := by decide +kernel
theorem dX3_isLike_28 : decode cX3_isLike 28 = .ok (.invokevirtual 71, 3) := by decide +kernel
theorem dX3_isLike_31 : decode cX3_isLike 31 = .ok (.if_icmp .ne 7, 3) := by decide +kernel
theorem dX3_isLike_34 : decode cX3_isLike 34 = .ok (.iconst 1, 1) := by decide +kernel
theorem dX3_isLike_35 : decode cX3_isLike 35 = .ok (.goto 4, 3) := by decide +kernel
theorem dX3_isLike_38 : decode cX3_isLike 38 = .ok (.iconst 0, 1) := by decide +kernel
theorem dX3_isLike_39 : decode cX3_isLike 39 = .ok (.ireturn, 1) := by decide +kernel
set_option maxRecDepth 20000 in
theorem ggX3_alike_X3_of : GoodIn wsX3_alike wsX3_of := goodIn_r _ [5, 6, 15, 16, 17, 18, 19, 20, 21, 22, 23, 24, 25, 26, 27, 28, 29, 30, 31] (by decide +kernel) (by decide +kernel)
set_option maxRecDepth 20000 in
theorem gX3_alike_X3_of : GoodIn wsX3_alike (wsV RX3 52 RX3 yX3_of wsX3_of) := goodIn_app (goodIn_of _ (by decide +kernel)) ggX3_alike_X3_of
set_option maxRecDepth 20000 in
theorem ggX3_alike_X3_isLike : GoodIn wsX3_alike wsX3_isLike := goodIn_r _ [10, 11, 12, 13, 4, 14, 1, 2, 3, 5, 6, 15, 16, 17, 18, 19, 20, 21, 22, 23, 24, 25, 26, 27, 28, 29, 30, 31] (by decide +kernel) (by decide +kernel)
set_option maxRecDepth 20000 in
theorem gX3_alike_X3_isLike : GoodIn wsX3_alike (wsV RX3 79 RX3 yX3_isLike wsX3_isLike) := goodIn_app (goodIn_of _ (by decide +kernel)) ggX3_alike_X3_isLike
theorem dX3_alike_0 : decode cX3_alike 0 = .ok (.iconst 0, 1) := by decide +kernel
theorem dX3_alike_1 : decode cX3_alike 1 = .ok (.istore_n 3, 1) := by decide +kernel
theorem dX3_alike_2 : decode cX3_alike 2 = .ok (.iload_n 3, 1) := by decide +kernel
theorem dX3_alike_3 : decode cX3_alike 3 = .ok (.aload_n 0, 1) := by decide +kernel
theorem dX3_alike_4 : decode cX3_alike 4 = .ok (.iload_n 1, 1) := by decide +kernel
theorem dX3_alike_5 : decode cX3_alike 5 = .ok (.bipush 6, 2) := by decide +kernel
theorem dX3_alike_7 : decode cX3_alike 7 = .ok (.invokevirtual 52, 3) := by decide +kernel
theorem dX3_alike_10 : decode cX3_alike 10 = .ok (.if_icmp .ge 30, 3) := by decide +kernel
theorem dX3_alike_13 : decode cX3_alike 13 = .ok (.iload_n 3, 1) := by decide +kernel
theorem dX3_alike_14 : decode cX3_alike 14 = .ok (.aload_n 0, 1) := by decide +kernel
theorem dX3_alike_15 : decode cX3_alike 15 = .ok (.iload_n 2, 1) := by decide +kernel
theorem dX3_alike_16 : decode cX3_alike 16 = .ok (.bipush 6, 2) := by decide +kernel
theorem dX3_alike_18 : decode cX3_alike 18 = .ok (.invokevirtual 52, 3) := by decide +kernel
theorem dX3_alike_21 : decode cX3_alike 21 = .ok (.if_icmp .ge 19, 3) := by decide +kernel
theorem dX3_alike_24 : decode cX3_alike 24 = .ok (.aload_n 0, 1) := by decide +kernel
theorem dX3_alike_25 : decode cX3_alike 25 = .ok (.iload_n 1, 1) := by decide +kernel
theorem dX3_alike_26 : decode cX3_alike 26 = .ok (.iload_n 2, 1) := by decide +kernel
theorem dX3_alike_27 : decode cX3_alike 27 = .ok (.iload_n 3, 1) := by decide +kernel
theorem dX3_alike_28 : decode cX3_alike 28 = .ok (.invokevirtual 79, 3) := by decide +kernel
theorem dX3_alike_31 : decode cX3_alike 31 = .ok (.ifCond .eq 9, 3) := by decide +kernel
theorem dX3_alike_34 : decode cX3_alike 34 = .ok (.iinc 3 1, 3) := by decide +kernel
theorem dX3_alike_37 : decode cX3_alike 37 = .ok (.goto (-35), 3) := by decide +kernel
theorem dX3_alike_40 : decode cX3_alike 40 = .ok (.iload_n 3, 1) := by decide +kernel
theorem dX3_alike_41 : decode cX3_alike 41 = .ok (.ireturn, 1) := by decide +kernel
set_option maxRecDepth 20000 in
theorem ggX3_tellsNoVote_X3_sets : GoodIn wsX3_tellsNoVote wsX3_sets := goodIn_r _ [5, 6, 7, 8, 9, 10, 11, 12, 13, 14, 15, 16, 17, 18, 19, 20, 21, 22, 23] (by decide +kernel) (by decide +kernel)
set_option maxRecDepth 20000 in
theorem gX3_tellsNoVote_X3_sets : GoodIn wsX3_tellsNoVote (wsV RX3 82 RX3 yX3_sets wsX3_sets) := goodIn_app (goodIn_of _ (by decide +kernel)) ggX3_tellsNoVote_X3_sets
theorem dX3_tellsNoVote_0 : decode cX3_tellsNoVote 0 = .ok (.aload_n 0, 1) := by decide +kernel
theorem dX3_tellsNoVote_1 : decode cX3_tellsNoVote 1 = .ok (.iload_n 1, 1) := by decide +kernel
theorem dX3_tellsNoVote_2 : decode cX3_tellsNoVote 2 = .ok (.iconst 0, 1) := by decide +kernel
theorem dX3_tellsNoVote_3 : decode cX3_tellsNoVote 3 = .ok (.iload_n 2, 1) := by decide +kernel
theorem dX3_tellsNoVote_4 : decode cX3_tellsNoVote 4 = .ok (.invokevirtual 82, 3) := by decide +kernel
theorem dX3_tellsNoVote_7 : decode cX3_tellsNoVote 7 = .ok (.aload_n 0, 1) := by decide +kernel
theorem dX3_tellsNoVote_8 : decode cX3_tellsNoVote 8 = .ok (.iload_n 1, 1) := by decide +kernel
theorem dX3_tellsNoVote_9 : decode cX3_tellsNoVote 9 = .ok (.iconst 1, 1) := by decide +kernel
theorem dX3_tellsNoVote_10 : decode cX3_tellsNoVote 10 = .ok (.iconst 0, 1) := by decide +kernel
theorem dX3_tellsNoVote_11 : decode cX3_tellsNoVote 11 = .ok (.invokevirtual 82, 3) := by decide +kernel
theorem dX3_tellsNoVote_14 : decode cX3_tellsNoVote 14 = .ok (.return_, 1) := by decide +kernel
set_option maxRecDepth 20000 in
theorem ggX3_asks_X3_of : GoodIn wsX3_asks wsX3_of := goodIn_r _ [6, 1, 45, 46, 47, 48, 49, 50, 51, 52, 53, 54, 55, 56, 57, 58, 59, 60, 61] (by decide +kernel) (by decide +kernel)
set_option maxRecDepth 20000 in
theorem gX3_asks_X3_of : GoodIn wsX3_asks (wsV RX3 52 RX3 yX3_of wsX3_of) := goodIn_app (goodIn_of _ (by decide +kernel)) ggX3_asks_X3_of
set_option maxRecDepth 20000 in
theorem ggX3_asks_X3_sets : GoodIn wsX3_asks wsX3_sets := goodIn_r _ [10, 1, 45, 46, 47, 48, 49, 50, 51, 52, 53, 54, 55, 56, 57, 58, 59, 60, 61] (by decide +kernel) (by decide +kernel)
set_option maxRecDepth 20000 in
theorem gX3_asks_X3_sets : GoodIn wsX3_asks (wsV RX3 82 RX3 yX3_sets wsX3_sets) := goodIn_app (goodIn_of _ (by decide +kernel)) ggX3_asks_X3_sets
set_option maxRecDepth 20000 in
theorem ggX3_asks_X3_isReached : GoodIn wsX3_asks wsX3_isReached := goodIn_r _ [14, 1, 15, 16, 17, 5, 18, 2, 3, 4, 6, 19, 20, 21, 22, 23, 24, 25, 26, 27, 28, 45, 46, 47, 48, 49, 50, 51, 52, 53, 54, 55, 56, 57, 58, 59, 60, 61] (by decide +kernel) (by decide +kernel)
set_option maxRecDepth 20000 in
theorem gX3_asks_X3_isReached : GoodIn wsX3_asks (wsV RX3 86 RX3 yX3_isReached wsX3_isReached) := goodIn_app (goodIn_of _ (by decide +kernel)) ggX3_asks_X3_isReached
set_option maxRecDepth 20000 in
theorem ggX3_asks_X3_tellsNoVote : GoodIn wsX3_asks wsX3_tellsNoVote := goodIn_r _ [32, 7, 8, 9, 5, 10, 1, 45, 46, 47, 48, 49, 50, 51, 52, 53, 54, 55, 56, 57, 58, 59, 60, 61] (by decide +kernel) (by decide +kernel)
set_option maxRecDepth 20000 in
theorem gX3_asks_X3_tellsNoVote : GoodIn wsX3_asks (wsV RX3 90 RX3 yX3_tellsNoVote wsX3_tellsNoVote) := goodIn_app (goodIn_of _ (by decide +kernel)) ggX3_asks_X3_tellsNoVote
set_option maxRecDepth 20000 in
theorem ggX3_asks_X3_isAsFar : GoodIn wsX3_asks wsX3_isAsFar := goodIn_r _ [36, 37, 38, 39, 5, 40, 2, 3, 4, 6, 1, 41, 42, 43, 44, 45, 46, 47, 48, 49, 50, 51, 52, 53, 54, 55, 56, 57, 58, 59, 60, 61] (by decide +kernel) (by decide +kernel)
set_option maxRecDepth 20000 in
theorem gX3_asks_X3_isAsFar : GoodIn wsX3_asks (wsV RX3 94 RX3 yX3_isAsFar wsX3_isAsFar) := goodIn_app (goodIn_of _ (by decide +kernel)) ggX3_asks_X3_isAsFar
theorem dX3_asks_0 : decode cX3_asks 0 = .ok (.aload_n 0, 1) := by decide +kernel
theorem dX3_asks_1 : decode cX3_asks 1 = .ok (.iload_n 1, 1) := by decide +kernel
theorem dX3_asks_2 : decode cX3_asks 2 = .ok (.iconst 0, 1) := by decide +kernel
theorem dX3_asks_3 : decode cX3_asks 3 = .ok (.aload_n 0, 1) := by decide +kernel
theorem dX3_asks_4 : decode cX3_asks 4 = .ok (.iload_n 1, 1) := by decide +kernel
theorem dX3_asks_5 : decode cX3_asks 5 = .ok (.iconst 0, 1) := by decide +kernel
theorem dX3_asks_6 : decode cX3_asks 6 = .ok (.invokevirtual 52, 3) := by decide +kernel
theorem dX3_asks_9 : decode cX3_asks 9 = .ok (.iconst 1, 1) := by decide +kernel
theorem dX3_asks_10 : decode cX3_asks 10 = .ok (.iadd, 1) := by decide +kernel
theorem dX3_asks_11 : decode cX3_asks 11 = .ok (.invokevirtual 82, 3) := by decide +kernel
theorem dX3_asks_14 : decode cX3_asks 14 = .ok (.aload_n 0, 1) := by decide +kernel
theorem dX3_asks_15 : decode cX3_asks 15 = .ok (.iload_n 1, 1) := by decide +kernel
theorem dX3_asks_16 : decode cX3_asks 16 = .ok (.iconst 1, 1) := by decide +kernel
theorem dX3_asks_17 : decode cX3_asks 17 = .ok (.iload_n 1, 1) := by decide +kernel
theorem dX3_asks_18 : decode cX3_asks 18 = .ok (.iconst 1, 1) := by decide +kernel
theorem dX3_asks_19 : decode cX3_asks 19 = .ok (.iadd, 1) := by decide +kernel
theorem dX3_asks_20 : decode cX3_asks 20 = .ok (.invokevirtual 82, 3) := by decide +kernel
theorem dX3_asks_23 : decode cX3_asks 23 = .ok (.aload_n 0, 1) := by decide +kernel
theorem dX3_asks_24 : decode cX3_asks 24 = .ok (.iload_n 1, 1) := by decide +kernel
theorem dX3_asks_25 : decode cX3_asks 25 = .ok (.iconst 4, 1) := by decide +kernel
theorem dX3_asks_26 : decode cX3_asks 26 = .ok (.iconst 0, 1) := by decide +kernel
theorem dX3_asks_27 : decode cX3_asks 27 = .ok (.invokevirtual 82, 3) := by decide +kernel
theorem dX3_asks_30 : decode cX3_asks 30 = .ok (.aload_n 0, 1) := by decide +kernel
theorem dX3_asks_31 : decode cX3_asks 31 = .ok (.getfield 9, 3) := by decide +kernel
theorem dX3_asks_34 : decode cX3_asks 34 = .ok (.iconst 0, 1) := by decide +kernel
theorem dX3_asks_35 : decode cX3_asks 35 = .ok (.dup2, 1) := by decide +kernel
theorem dX3_asks_36 : decode cX3_asks 36 = .ok (.iaload, 1) := by decide +kernel
theorem dX3_asks_37 : decode cX3_asks 37 = .ok (.iconst 1, 1) := by decide +kernel
theorem dX3_asks_38 : decode cX3_asks 38 = .ok (.iadd, 1) := by decide +kernel
theorem dX3_asks_39 : decode cX3_asks 39 = .ok (.iastore, 1) := by decide +kernel
theorem dX3_asks_40 : decode cX3_asks 40 = .ok (.iconst 1, 1) := by decide +kernel
theorem dX3_asks_41 : decode cX3_asks 41 = .ok (.istore_n 2, 1) := by decide +kernel
theorem dX3_asks_42 : decode cX3_asks 42 = .ok (.iconst 0, 1) := by decide +kernel
theorem dX3_asks_43 : decode cX3_asks 43 = .ok (.istore_n 3, 1) := by decide +kernel
theorem dX3_asks_44 : decode cX3_asks 44 = .ok (.iload_n 3, 1) := by decide +kernel
theorem dX3_asks_45 : decode cX3_asks 45 = .ok (.iconst 5, 1) := by decide +kernel
theorem dX3_asks_46 : decode cX3_asks 46 = .ok (.if_icmp .ge 122, 3) := by decide +kernel
theorem dX3_asks_49 : decode cX3_asks 49 = .ok (.aload_n 0, 1) := by decide +kernel
theorem dX3_asks_50 : decode cX3_asks 50 = .ok (.iload_n 1, 1) := by decide +kernel
theorem dX3_asks_51 : decode cX3_asks 51 = .ok (.iload_n 3, 1) := by decide +kernel
theorem dX3_asks_52 : decode cX3_asks 52 = .ok (.invokevirtual 86, 3) := by decide +kernel
theorem dX3_asks_55 : decode cX3_asks 55 = .ok (.ifCond .ne 6, 3) := by decide +kernel
theorem dX3_asks_58 : decode cX3_asks 58 = .ok (.goto 104, 3) := by decide +kernel
theorem dX3_asks_61 : decode cX3_asks 61 = .ok (.aload_n 0, 1) := by decide +kernel
theorem dX3_asks_62 : decode cX3_asks 62 = .ok (.iload_n 3, 1) := by decide +kernel
theorem dX3_asks_63 : decode cX3_asks 63 = .ok (.iconst 0, 1) := by decide +kernel
theorem dX3_asks_64 : decode cX3_asks 64 = .ok (.invokevirtual 52, 3) := by decide +kernel
theorem dX3_asks_67 : decode cX3_asks 67 = .ok (.aload_n 0, 1) := by decide +kernel
theorem dX3_asks_68 : decode cX3_asks 68 = .ok (.iload_n 1, 1) := by decide +kernel
theorem dX3_asks_69 : decode cX3_asks 69 = .ok (.iconst 0, 1) := by decide +kernel
theorem dX3_asks_70 : decode cX3_asks 70 = .ok (.invokevirtual 52, 3) := by decide +kernel
theorem dX3_asks_73 : decode cX3_asks 73 = .ok (.if_icmp .le 16, 3) := by decide +kernel
theorem dX3_asks_76 : decode cX3_asks 76 = .ok (.aload_n 0, 1) := by decide +kernel
theorem dX3_asks_77 : decode cX3_asks 77 = .ok (.iload_n 1, 1) := by decide +kernel
theorem dX3_asks_78 : decode cX3_asks 78 = .ok (.aload_n 0, 1) := by decide +kernel
theorem dX3_asks_79 : decode cX3_asks 79 = .ok (.iload_n 3, 1) := by decide +kernel
theorem dX3_asks_80 : decode cX3_asks 80 = .ok (.iconst 0, 1) := by decide +kernel
theorem dX3_asks_81 : decode cX3_asks 81 = .ok (.invokevirtual 52, 3) := by decide +kernel
theorem dX3_asks_84 : decode cX3_asks 84 = .ok (.invokevirtual 90, 3) := by decide +kernel
theorem dX3_asks_87 : decode cX3_asks 87 = .ok (.iconst 0, 1) := by decide +kernel
theorem dX3_asks_88 : decode cX3_asks 88 = .ok (.ireturn, 1) := by decide +kernel
theorem dX3_asks_89 : decode cX3_asks 89 = .ok (.aload_n 0, 1) := by decide +kernel
theorem dX3_asks_90 : decode cX3_asks 90 = .ok (.iload_n 3, 1) := by decide +kernel
theorem dX3_asks_91 : decode cX3_asks 91 = .ok (.iconst 0, 1) := by decide +kernel
theorem dX3_asks_92 : decode cX3_asks 92 = .ok (.invokevirtual 52, 3) := by decide +kernel
theorem dX3_asks_95 : decode cX3_asks 95 = .ok (.aload_n 0, 1) := by decide +kernel
theorem dX3_asks_96 : decode cX3_asks 96 = .ok (.iload_n 1, 1) := by decide +kernel
theorem dX3_asks_97 : decode cX3_asks 97 = .ok (.iconst 0, 1) := by decide +kernel
theorem dX3_asks_98 : decode cX3_asks 98 = .ok (.invokevirtual 52, 3) := by decide +kernel
theorem dX3_asks_101 : decode cX3_asks 101 = .ok (.if_icmp .ge 21, 3) := by decide +kernel
theorem dX3_asks_104 : decode cX3_asks 104 = .ok (.aload_n 0, 1) := by decide +kernel
theorem dX3_asks_105 : decode cX3_asks 105 = .ok (.iload_n 3, 1) := by decide +kernel
theorem dX3_asks_106 : decode cX3_asks 106 = .ok (.aload_n 0, 1) := by decide +kernel
theorem dX3_asks_107 : decode cX3_asks 107 = .ok (.iload_n 1, 1) := by decide +kernel
theorem dX3_asks_108 : decode cX3_asks 108 = .ok (.iconst 0, 1) := by decide +kernel
theorem dX3_asks_109 : decode cX3_asks 109 = .ok (.invokevirtual 52, 3) := by decide +kernel
theorem dX3_asks_112 : decode cX3_asks 112 = .ok (.invokevirtual 90, 3) := by decide +kernel
theorem dX3_asks_115 : decode cX3_asks 115 = .ok (.aload_n 0, 1) := by decide +kernel
theorem dX3_asks_116 : decode cX3_asks 116 = .ok (.iload_n 3, 1) := by decide +kernel
theorem dX3_asks_117 : decode cX3_asks 117 = .ok (.iconst 2, 1) := by decide +kernel
theorem dX3_asks_118 : decode cX3_asks 118 = .ok (.iconst 0, 1) := by decide +kernel
theorem dX3_asks_119 : decode cX3_asks 119 = .ok (.invokevirtual 82, 3) := by decide +kernel
theorem dX3_asks_122 : decode cX3_asks 122 = .ok (.aload_n 0, 1) := by decide +kernel
theorem dX3_asks_123 : decode cX3_asks 123 = .ok (.iload_n 3, 1) := by decide +kernel
theorem dX3_asks_124 : decode cX3_asks 124 = .ok (.iconst 1, 1) := by decide +kernel
theorem dX3_asks_125 : decode cX3_asks 125 = .ok (.invokevirtual 52, 3) := by decide +kernel
theorem dX3_asks_128 : decode cX3_asks 128 = .ok (.ifCond .gt 34, 3) := by decide +kernel
theorem dX3_asks_131 : decode cX3_asks 131 = .ok (.aload_n 0, 1) := by decide +kernel
theorem dX3_asks_132 : decode cX3_asks 132 = .ok (.iload_n 1, 1) := by decide +kernel
theorem dX3_asks_133 : decode cX3_asks 133 = .ok (.iload_n 3, 1) := by decide +kernel
theorem dX3_asks_134 : decode cX3_asks 134 = .ok (.invokevirtual 94, 3) := by decide +kernel
theorem dX3_asks_137 : decode cX3_asks 137 = .ok (.ifCond .ne 6, 3) := by decide +kernel
theorem dX3_asks_140 : decode cX3_asks 140 = .ok (.goto 22, 3) := by decide +kernel
theorem dX3_asks_143 : decode cX3_asks 143 = .ok (.aload_n 0, 1) := by decide +kernel
theorem dX3_asks_144 : decode cX3_asks 144 = .ok (.iload_n 3, 1) := by decide +kernel
theorem dX3_asks_145 : decode cX3_asks 145 = .ok (.iconst 1, 1) := by decide +kernel
theorem dX3_asks_146 : decode cX3_asks 146 = .ok (.iload_n 1, 1) := by decide +kernel
theorem dX3_asks_147 : decode cX3_asks 147 = .ok (.iconst 1, 1) := by decide +kernel
theorem dX3_asks_148 : decode cX3_asks 148 = .ok (.iadd, 1) := by decide +kernel
theorem dX3_asks_149 : decode cX3_asks 149 = .ok (.invokevirtual 82, 3) := by decide +kernel
theorem dX3_asks_152 : decode cX3_asks 152 = .ok (.aload_n 0, 1) := by decide +kernel
theorem dX3_asks_153 : decode cX3_asks 153 = .ok (.iload_n 3, 1) := by decide +kernel
theorem dX3_asks_154 : decode cX3_asks 154 = .ok (.iconst 4, 1) := by decide +kernel
theorem dX3_asks_155 : decode cX3_asks 155 = .ok (.iconst 0, 1) := by decide +kernel
theorem dX3_asks_156 : decode cX3_asks 156 = .ok (.invokevirtual 82, 3) := by decide +kernel
theorem dX3_asks_159 : decode cX3_asks 159 = .ok (.iinc 2 1, 3) := by decide +kernel
theorem dX3_asks_162 : decode cX3_asks 162 = .ok (.iinc 3 1, 3) := by decide +kernel
theorem dX3_asks_165 : decode cX3_asks 165 = .ok (.goto (-121), 3) := by decide +kernel
theorem dX3_asks_168 : decode cX3_asks 168 = .ok (.iload_n 2, 1) := by decide +kernel
theorem dX3_asks_169 : decode cX3_asks 169 = .ok (.iconst 3, 1) := by decide +kernel
theorem dX3_asks_170 : decode cX3_asks 170 = .ok (.if_icmp .lt 20, 3) := by decide +kernel
theorem dX3_asks_173 : decode cX3_asks 173 = .ok (.aload_n 0, 1) := by decide +kernel
theorem dX3_asks_174 : decode cX3_asks 174 = .ok (.iload_n 1, 1) := by decide +kernel
theorem dX3_asks_175 : decode cX3_asks 175 = .ok (.iconst 2, 1) := by decide +kernel
theorem dX3_asks_176 : decode cX3_asks 176 = .ok (.iconst 1, 1) := by decide +kernel
theorem dX3_asks_177 : decode cX3_asks 177 = .ok (.invokevirtual 82, 3) := by decide +kernel
theorem dX3_asks_180 : decode cX3_asks 180 = .ok (.aload_n 0, 1) := by decide +kernel
theorem dX3_asks_181 : decode cX3_asks 181 = .ok (.getfield 9, 3) := by decide +kernel
theorem dX3_asks_184 : decode cX3_asks 184 = .ok (.iconst 1, 1) := by decide +kernel
theorem dX3_asks_185 : decode cX3_asks 185 = .ok (.dup2, 1) := by decide +kernel
theorem dX3_asks_186 : decode cX3_asks 186 = .ok (.iaload, 1) := by decide +kernel
theorem dX3_asks_187 : decode cX3_asks 187 = .ok (.iconst 1, 1) := by decide +kernel
theorem dX3_asks_188 : decode cX3_asks 188 = .ok (.iadd, 1) := by decide +kernel
theorem dX3_asks_189 : decode cX3_asks 189 = .ok (.iastore, 1) := by decide +kernel
theorem dX3_asks_190 : decode cX3_asks 190 = .ok (.iload_n 2, 1) := by decide +kernel
theorem dX3_asks_191 : decode cX3_asks 191 = .ok (.ireturn, 1) := by decide +kernel
set_option maxRecDepth 20000 in
theorem ggX3_dusks_X3_isCamp : GoodIn wsX3_dusks wsX3_isCamp := goodIn_r _ [4, 5, 6, 3, 7] (by decide +kernel) (by decide +kernel)
set_option maxRecDepth 20000 in
theorem gX3_dusks_X3_isCamp : GoodIn wsX3_dusks (va_wsS RX3 97 yX3_isCamp wsX3_isCamp) := goodIn_app (goodIn_of _ (by decide +kernel)) ggX3_dusks_X3_isCamp
set_option maxRecDepth 20000 in
theorem ggX3_dusks_X3_isAwake : GoodIn wsX3_dusks wsX3_isAwake := goodIn_r _ [11, 12, 13, 14, 3, 15, 16, 62, 63, 64, 65, 66, 67, 68, 69, 70, 71, 72, 73, 74, 75, 76, 77, 78] (by decide +kernel) (by decide +kernel)
set_option maxRecDepth 20000 in
theorem gX3_dusks_X3_isAwake : GoodIn wsX3_dusks (wsV RX3 64 RX3 yX3_isAwake wsX3_isAwake) := goodIn_app (goodIn_of _ (by decide +kernel)) ggX3_dusks_X3_isAwake
set_option maxRecDepth 20000 in
theorem ggX3_dusks_X3_refuses : GoodIn wsX3_dusks wsX3_refuses := goodIn_r _ [20, 21, 22, 23, 62, 63, 64, 65, 66, 67, 68, 69, 70, 71, 72, 73, 74, 75, 76, 77, 78] (by decide +kernel) (by decide +kernel)
set_option maxRecDepth 20000 in
theorem gX3_dusks_X3_refuses : GoodIn wsX3_dusks (wsV RX3 100 RX3 yX3_refuses wsX3_refuses) := goodIn_app (goodIn_of _ (by decide +kernel)) ggX3_dusks_X3_refuses
set_option maxRecDepth 20000 in
theorem ggX3_dusks_X3_of : GoodIn wsX3_dusks wsX3_of := goodIn_r _ [15, 16, 62, 63, 64, 65, 66, 67, 68, 69, 70, 71, 72, 73, 74, 75, 76, 77, 78] (by decide +kernel) (by decide +kernel)
set_option maxRecDepth 20000 in
theorem gX3_dusks_X3_of : GoodIn wsX3_dusks (wsV RX3 52 RX3 yX3_of wsX3_of) := goodIn_app (goodIn_of _ (by decide +kernel)) ggX3_dusks_X3_of
set_option maxRecDepth 20000 in
theorem ggX3_dusks_X3_asks : GoodIn wsX3_dusks wsX3_asks := goodIn_r _ [27, 16, 12, 13, 14, 3, 15, 28, 29, 30, 31, 32, 33, 34, 35, 8, 9, 10, 11, 36, 37, 38, 39, 40, 41, 42, 43, 44, 45, 46, 47, 48, 49, 50, 51, 52, 53, 54, 55, 56, 57, 58, 59, 60, 61, 62, 63, 64, 65, 66, 67, 68, 69, 70, 71, 72, 73, 74, 75, 76, 77, 78] (by decide +kernel) (by decide +kernel)
set_option maxRecDepth 20000 in
theorem gX3_dusks_X3_asks : GoodIn wsX3_dusks (wsV RX3 103 RX3 yX3_asks wsX3_asks) := goodIn_app (goodIn_of _ (by decide +kernel)) ggX3_dusks_X3_asks
theorem dX3_dusks_0 : decode cX3_dusks 0 = .ok (.iload_n 1, 1) := by decide +kernel
theorem dX3_dusks_1 : decode cX3_dusks 1 = .ok (.invokestatic 97, 3) := by decide +kernel
theorem dX3_dusks_4 : decode cX3_dusks 4 = .ok (.ifCond .ne 5, 3) := by decide +kernel
theorem dX3_dusks_7 : decode cX3_dusks 7 = .ok (.iconst (-1), 1) := by decide +kernel
theorem dX3_dusks_8 : decode cX3_dusks 8 = .ok (.ireturn, 1) := by decide +kernel
theorem dX3_dusks_9 : decode cX3_dusks 9 = .ok (.aload_n 0, 1) := by decide +kernel
theorem dX3_dusks_10 : decode cX3_dusks 10 = .ok (.iload_n 1, 1) := by decide +kernel
theorem dX3_dusks_11 : decode cX3_dusks 11 = .ok (.invokevirtual 64, 3) := by decide +kernel
theorem dX3_dusks_14 : decode cX3_dusks 14 = .ok (.ifCond .ne 10, 3) := by decide +kernel
theorem dX3_dusks_17 : decode cX3_dusks 17 = .ok (.aload_n 0, 1) := by decide +kernel
theorem dX3_dusks_18 : decode cX3_dusks 18 = .ok (.iconst 1, 1) := by decide +kernel
theorem dX3_dusks_19 : decode cX3_dusks 19 = .ok (.iload_n 1, 1) := by decide +kernel
theorem dX3_dusks_20 : decode cX3_dusks 20 = .ok (.invokevirtual 100, 3) := by decide +kernel
theorem dX3_dusks_23 : decode cX3_dusks 23 = .ok (.ireturn, 1) := by decide +kernel
theorem dX3_dusks_24 : decode cX3_dusks 24 = .ok (.aload_n 0, 1) := by decide +kernel
theorem dX3_dusks_25 : decode cX3_dusks 25 = .ok (.iload_n 1, 1) := by decide +kernel
theorem dX3_dusks_26 : decode cX3_dusks 26 = .ok (.iconst 2, 1) := by decide +kernel
theorem dX3_dusks_27 : decode cX3_dusks 27 = .ok (.invokevirtual 52, 3) := by decide +kernel
theorem dX3_dusks_30 : decode cX3_dusks 30 = .ok (.iconst 1, 1) := by decide +kernel
theorem dX3_dusks_31 : decode cX3_dusks 31 = .ok (.if_icmp .ne 15, 3) := by decide +kernel
theorem dX3_dusks_34 : decode cX3_dusks 34 = .ok (.aload_n 0, 1) := by decide +kernel
theorem dX3_dusks_35 : decode cX3_dusks 35 = .ok (.iconst 2, 1) := by decide +kernel
theorem dX3_dusks_36 : decode cX3_dusks 36 = .ok (.aload_n 0, 1) := by decide +kernel
theorem dX3_dusks_37 : decode cX3_dusks 37 = .ok (.iload_n 1, 1) := by decide +kernel
theorem dX3_dusks_38 : decode cX3_dusks 38 = .ok (.iconst 0, 1) := by decide +kernel
theorem dX3_dusks_39 : decode cX3_dusks 39 = .ok (.invokevirtual 52, 3) := by decide +kernel
theorem dX3_dusks_42 : decode cX3_dusks 42 = .ok (.invokevirtual 100, 3) := by decide +kernel
theorem dX3_dusks_45 : decode cX3_dusks 45 = .ok (.ireturn, 1) := by decide +kernel
theorem dX3_dusks_46 : decode cX3_dusks 46 = .ok (.aload_n 0, 1) := by decide +kernel
theorem dX3_dusks_47 : decode cX3_dusks 47 = .ok (.iload_n 1, 1) := by decide +kernel
theorem dX3_dusks_48 : decode cX3_dusks 48 = .ok (.invokevirtual 103, 3) := by decide +kernel
theorem dX3_dusks_51 : decode cX3_dusks 51 = .ok (.ireturn, 1) := by decide +kernel
set_option maxRecDepth 20000 in
theorem ggX3_dusk_X3_tries : GoodIn wsX3_dusk wsX3_tries := goodIn_r _ [5, 6, 7, 77, 78, 79, 80, 81, 82, 83, 84, 85, 86, 87, 88, 89, 90, 91, 92, 93] (by decide +kernel) (by decide +kernel)
set_option maxRecDepth 20000 in
theorem gX3_dusk_X3_tries : GoodIn wsX3_dusk (wsV RX3 106 RX3 yX3_tries wsX3_tries) := goodIn_app (goodIn_of _ (by decide +kernel)) ggX3_dusk_X3_tries
set_option maxRecDepth 20000 in
theorem ggX3_dusk_X3_dusks : GoodIn wsX3_dusk wsX3_dusks := goodIn_r _ [11, 12, 13, 4, 14, 15, 16, 17, 18, 19, 20, 21, 22, 23, 24, 25, 7, 26, 27, 28, 29, 30, 31, 32, 33, 34, 35, 36, 37, 38, 39, 40, 41, 42, 43, 44, 45, 46, 47, 48, 49, 50, 51, 52, 53, 54, 55, 56, 57, 58, 59, 60, 61, 62, 63, 64, 65, 66, 67, 68, 69, 70, 77, 78, 79, 80, 81, 82, 83, 84, 85, 86, 87, 88, 89, 90, 91, 92, 93] (by decide +kernel) (by decide +kernel)
set_option maxRecDepth 20000 in
theorem gX3_dusk_X3_dusks : GoodIn wsX3_dusk (wsV RX3 109 RX3 yX3_dusks wsX3_dusks) := goodIn_app (goodIn_of _ (by decide +kernel)) ggX3_dusk_X3_dusks
set_option maxRecDepth 20000 in
theorem ggX3_dusk_X3_ends : GoodIn wsX3_dusk wsX3_ends := goodIn_r _ [74, 7, 6, 75, 76, 77, 78, 79, 80, 81, 82, 83, 84, 85, 86, 87, 88, 89, 90, 91, 92, 93] (by decide +kernel) (by decide +kernel)
set_option maxRecDepth 20000 in
theorem gX3_dusk_X3_ends : GoodIn wsX3_dusk (wsV RX3 112 RX3 yX3_ends wsX3_ends) := goodIn_app (goodIn_of _ (by decide +kernel)) ggX3_dusk_X3_ends
theorem dX3_dusk_0 : decode cX3_dusk 0 = .ok (.aload_n 0, 1) := by decide +kernel
theorem dX3_dusk_1 : decode cX3_dusk 1 = .ok (.invokevirtual 106, 3) := by decide +kernel
theorem dX3_dusk_4 : decode cX3_dusk 4 = .ok (.aload_n 0, 1) := by decide +kernel
theorem dX3_dusk_5 : decode cX3_dusk 5 = .ok (.aload_n 0, 1) := by decide +kernel
theorem dX3_dusk_6 : decode cX3_dusk 6 = .ok (.iload_n 1, 1) := by decide +kernel
theorem dX3_dusk_7 : decode cX3_dusk 7 = .ok (.invokevirtual 109, 3) := by decide +kernel
theorem dX3_dusk_10 : decode cX3_dusk 10 = .ok (.invokevirtual 112, 3) := by decide +kernel
theorem dX3_dusk_13 : decode cX3_dusk 13 = .ok (.ireturn, 1) := by decide +kernel
set_option maxRecDepth 20000 in
theorem ggX3_lacks_X3_isAwake : GoodIn wsX3_lacks wsX3_isAwake := goodIn_r _ [5, 6, 7, 8, 4, 9, 10, 18, 19, 20, 21, 22, 23, 24, 25, 26, 27, 28, 29, 30, 31, 32, 33, 34] (by decide +kernel) (by decide +kernel)
set_option maxRecDepth 20000 in
theorem gX3_lacks_X3_isAwake : GoodIn wsX3_lacks (wsV RX3 64 RX3 yX3_isAwake wsX3_isAwake) := goodIn_app (goodIn_of _ (by decide +kernel)) ggX3_lacks_X3_isAwake
set_option maxRecDepth 20000 in
theorem ggX3_lacks_X3_refuses : GoodIn wsX3_lacks wsX3_refuses := goodIn_r _ [14, 15, 16, 17, 18, 19, 20, 21, 22, 23, 24, 25, 26, 27, 28, 29, 30, 31, 32, 33, 34] (by decide +kernel) (by decide +kernel)
set_option maxRecDepth 20000 in
theorem gX3_lacks_X3_refuses : GoodIn wsX3_lacks (wsV RX3 100 RX3 yX3_refuses wsX3_refuses) := goodIn_app (goodIn_of _ (by decide +kernel)) ggX3_lacks_X3_refuses
set_option maxRecDepth 20000 in
theorem ggX3_lacks_X3_of : GoodIn wsX3_lacks wsX3_of := goodIn_r _ [9, 10, 18, 19, 20, 21, 22, 23, 24, 25, 26, 27, 28, 29, 30, 31, 32, 33, 34] (by decide +kernel) (by decide +kernel)
set_option maxRecDepth 20000 in
theorem gX3_lacks_X3_of : GoodIn wsX3_lacks (wsV RX3 52 RX3 yX3_of wsX3_of) := goodIn_app (goodIn_of _ (by decide +kernel)) ggX3_lacks_X3_of
theorem dX3_lacks_0 : decode cX3_lacks 0 = .ok (.aload_n 0, 1) := by decide +kernel
theorem dX3_lacks_1 : decode cX3_lacks 1 = .ok (.iload_n 1, 1) := by decide +kernel
theorem dX3_lacks_2 : decode cX3_lacks 2 = .ok (.invokevirtual 64, 3) := by decide +kernel
theorem dX3_lacks_5 : decode cX3_lacks 5 = .ok (.ifCond .ne 10, 3) := by decide +kernel
theorem dX3_lacks_8 : decode cX3_lacks 8 = .ok (.aload_n 0, 1) := by decide +kernel
theorem dX3_lacks_9 : decode cX3_lacks 9 = .ok (.iconst 1, 1) := by decide +kernel
theorem dX3_lacks_10 : decode cX3_lacks 10 = .ok (.iload_n 1, 1) := by decide +kernel
theorem dX3_lacks_11 : decode cX3_lacks 11 = .ok (.invokevirtual 100, 3) := by decide +kernel
theorem dX3_lacks_14 : decode cX3_lacks 14 = .ok (.ireturn, 1) := by decide +kernel
theorem dX3_lacks_15 : decode cX3_lacks 15 = .ok (.aload_n 0, 1) := by decide +kernel
theorem dX3_lacks_16 : decode cX3_lacks 16 = .ok (.iload_n 1, 1) := by decide +kernel
theorem dX3_lacks_17 : decode cX3_lacks 17 = .ok (.iconst 2, 1) := by decide +kernel
theorem dX3_lacks_18 : decode cX3_lacks 18 = .ok (.invokevirtual 52, 3) := by decide +kernel
theorem dX3_lacks_21 : decode cX3_lacks 21 = .ok (.iconst 1, 1) := by decide +kernel
theorem dX3_lacks_22 : decode cX3_lacks 22 = .ok (.if_icmp .ne 7, 3) := by decide +kernel
theorem dX3_lacks_25 : decode cX3_lacks 25 = .ok (.iconst 0, 1) := by decide +kernel
theorem dX3_lacks_26 : decode cX3_lacks 26 = .ok (.goto 14, 3) := by decide +kernel
theorem dX3_lacks_29 : decode cX3_lacks 29 = .ok (.aload_n 0, 1) := by decide +kernel
theorem dX3_lacks_30 : decode cX3_lacks 30 = .ok (.iconst 2, 1) := by decide +kernel
theorem dX3_lacks_31 : decode cX3_lacks 31 = .ok (.aload_n 0, 1) := by decide +kernel
theorem dX3_lacks_32 : decode cX3_lacks 32 = .ok (.iload_n 1, 1) := by decide +kernel
theorem dX3_lacks_33 : decode cX3_lacks 33 = .ok (.iconst 0, 1) := by decide +kernel
theorem dX3_lacks_34 : decode cX3_lacks 34 = .ok (.invokevirtual 52, 3) := by decide +kernel
theorem dX3_lacks_37 : decode cX3_lacks 37 = .ok (.invokevirtual 100, 3) := by decide +kernel
theorem dX3_lacks_40 : decode cX3_lacks 40 = .ok (.ireturn, 1) := by decide +kernel
set_option maxRecDepth 20000 in
theorem ggX3_writes_X3_isCamp : GoodIn wsX3_writes wsX3_isCamp := goodIn_r _ [5, 6, 7, 4, 8] (by decide +kernel) (by decide +kernel)
set_option maxRecDepth 20000 in
theorem gX3_writes_X3_isCamp : GoodIn wsX3_writes (va_wsS RX3 97 yX3_isCamp wsX3_isCamp) := goodIn_app (goodIn_of _ (by decide +kernel)) ggX3_writes_X3_isCamp
set_option maxRecDepth 20000 in
theorem ggX3_writes_X3_in : GoodIn wsX3_writes wsX3_in := goodIn_r _ [8] (by decide +kernel) (by decide +kernel)
set_option maxRecDepth 20000 in
theorem gX3_writes_X3_in : GoodIn wsX3_writes (va_wsS RX3 48 yX3_in wsX3_in) := goodIn_app (goodIn_of _ (by decide +kernel)) ggX3_writes_X3_in
set_option maxRecDepth 20000 in
theorem ggX3_writes_X3_lacks : GoodIn wsX3_writes wsX3_lacks := goodIn_r _ [12, 13, 14, 15, 4, 16, 17, 18, 19, 20, 1, 21, 22, 23, 24, 25, 26, 27, 32, 33, 34, 35, 36, 37, 38, 39, 40, 41, 42, 43, 44, 45, 46, 47, 48] (by decide +kernel) (by decide +kernel)
set_option maxRecDepth 20000 in
theorem gX3_writes_X3_lacks : GoodIn wsX3_writes (wsV RX3 115 RX3 yX3_lacks wsX3_lacks) := goodIn_app (goodIn_of _ (by decide +kernel)) ggX3_writes_X3_lacks
set_option maxRecDepth 20000 in
theorem ggX3_writes_X3_of : GoodIn wsX3_writes wsX3_of := goodIn_r _ [20, 1, 32, 33, 34, 35, 36, 37, 38, 39, 40, 41, 42, 43, 44, 45, 46, 47, 48] (by decide +kernel) (by decide +kernel)
set_option maxRecDepth 20000 in
theorem gX3_writes_X3_of : GoodIn wsX3_writes (wsV RX3 52 RX3 yX3_of wsX3_of) := goodIn_app (goodIn_of _ (by decide +kernel)) ggX3_writes_X3_of
set_option maxRecDepth 20000 in
theorem ggX3_writes_X3_refuses : GoodIn wsX3_writes wsX3_refuses := goodIn_r _ [24, 25, 26, 27, 32, 33, 34, 35, 36, 37, 38, 39, 40, 41, 42, 43, 44, 45, 46, 47, 48] (by decide +kernel) (by decide +kernel)
set_option maxRecDepth 20000 in
theorem gX3_writes_X3_refuses : GoodIn wsX3_writes (wsV RX3 100 RX3 yX3_refuses wsX3_refuses) := goodIn_app (goodIn_of _ (by decide +kernel)) ggX3_writes_X3_refuses
set_option maxRecDepth 20000 in
theorem ggX3_writes_X3_sets : GoodIn wsX3_writes wsX3_sets := goodIn_r _ [31, 1, 32, 33, 34, 35, 36, 37, 38, 39, 40, 41, 42, 43, 44, 45, 46, 47, 48] (by decide +kernel) (by decide +kernel)
set_option maxRecDepth 20000 in
theorem gX3_writes_X3_sets : GoodIn wsX3_writes (wsV RX3 82 RX3 yX3_sets wsX3_sets) := goodIn_app (goodIn_of _ (by decide +kernel)) ggX3_writes_X3_sets
theorem dX3_writes_0 : decode cX3_writes 0 = .ok (.iload_n 1, 1) := by decide +kernel
theorem dX3_writes_1 : decode cX3_writes 1 = .ok (.invokestatic 97, 3) := by decide +kernel
theorem dX3_writes_4 : decode cX3_writes 4 = .ok (.ifCond .eq 12, 3) := by decide +kernel
theorem dX3_writes_7 : decode cX3_writes 7 = .ok (.iload_n 2, 1) := by decide +kernel
theorem dX3_writes_8 : decode cX3_writes 8 = .ok (.iconst 0, 1) := by decide +kernel
theorem dX3_writes_9 : decode cX3_writes 9 = .ok (.iconst 3, 1) := by decide +kernel
theorem dX3_writes_10 : decode cX3_writes 10 = .ok (.invokestatic 48, 3) := by decide +kernel
theorem dX3_writes_13 : decode cX3_writes 13 = .ok (.ifCond .ne 5, 3) := by decide +kernel
theorem dX3_writes_16 : decode cX3_writes 16 = .ok (.iconst (-1), 1) := by decide +kernel
theorem dX3_writes_17 : decode cX3_writes 17 = .ok (.ireturn, 1) := by decide +kernel
theorem dX3_writes_18 : decode cX3_writes 18 = .ok (.aload_n 0, 1) := by decide +kernel
theorem dX3_writes_19 : decode cX3_writes 19 = .ok (.iload_n 1, 1) := by decide +kernel
theorem dX3_writes_20 : decode cX3_writes 20 = .ok (.invokevirtual 115, 3) := by decide +kernel
theorem dX3_writes_23 : decode cX3_writes 23 = .ok (.ifCond .ge 6, 3) := by decide +kernel
theorem dX3_writes_26 : decode cX3_writes 26 = .ok (.bipush (-3), 2) := by decide +kernel
theorem dX3_writes_28 : decode cX3_writes 28 = .ok (.ireturn, 1) := by decide +kernel
theorem dX3_writes_29 : decode cX3_writes 29 = .ok (.aload_n 0, 1) := by decide +kernel
theorem dX3_writes_30 : decode cX3_writes 30 = .ok (.iload_n 1, 1) := by decide +kernel
theorem dX3_writes_31 : decode cX3_writes 31 = .ok (.bipush 6, 2) := by decide +kernel
theorem dX3_writes_33 : decode cX3_writes 33 = .ok (.invokevirtual 52, 3) := by decide +kernel
theorem dX3_writes_36 : decode cX3_writes 36 = .ok (.istore_n 3, 1) := by decide +kernel
theorem dX3_writes_37 : decode cX3_writes 37 = .ok (.iload_n 3, 1) := by decide +kernel
theorem dX3_writes_38 : decode cX3_writes 38 = .ok (.bipush 12, 2) := by decide +kernel
theorem dX3_writes_40 : decode cX3_writes 40 = .ok (.if_icmp .ne 11, 3) := by decide +kernel
theorem dX3_writes_43 : decode cX3_writes 43 = .ok (.aload_n 0, 1) := by decide +kernel
theorem dX3_writes_44 : decode cX3_writes 44 = .ok (.iconst 3, 1) := by decide +kernel
theorem dX3_writes_45 : decode cX3_writes 45 = .ok (.bipush 12, 2) := by decide +kernel
theorem dX3_writes_47 : decode cX3_writes 47 = .ok (.invokevirtual 100, 3) := by decide +kernel
theorem dX3_writes_50 : decode cX3_writes 50 = .ok (.ireturn, 1) := by decide +kernel
theorem dX3_writes_51 : decode cX3_writes 51 = .ok (.aload_n 0, 1) := by decide +kernel
theorem dX3_writes_52 : decode cX3_writes 52 = .ok (.iload_n 1, 1) := by decide +kernel
theorem dX3_writes_53 : decode cX3_writes 53 = .ok (.bipush 7, 2) := by decide +kernel
theorem dX3_writes_55 : decode cX3_writes 55 = .ok (.iconst 2, 1) := by decide +kernel
theorem dX3_writes_56 : decode cX3_writes 56 = .ok (.iload_n 3, 1) := by decide +kernel
theorem dX3_writes_57 : decode cX3_writes 57 = .ok (.imul, 1) := by decide +kernel
theorem dX3_writes_58 : decode cX3_writes 58 = .ok (.iadd, 1) := by decide +kernel
theorem dX3_writes_59 : decode cX3_writes 59 = .ok (.aload_n 0, 1) := by decide +kernel
theorem dX3_writes_60 : decode cX3_writes 60 = .ok (.iload_n 1, 1) := by decide +kernel
theorem dX3_writes_61 : decode cX3_writes 61 = .ok (.iconst 0, 1) := by decide +kernel
theorem dX3_writes_62 : decode cX3_writes 62 = .ok (.invokevirtual 52, 3) := by decide +kernel
theorem dX3_writes_65 : decode cX3_writes 65 = .ok (.invokevirtual 82, 3) := by decide +kernel
theorem dX3_writes_68 : decode cX3_writes 68 = .ok (.aload_n 0, 1) := by decide +kernel
theorem dX3_writes_69 : decode cX3_writes 69 = .ok (.iload_n 1, 1) := by decide +kernel
theorem dX3_writes_70 : decode cX3_writes 70 = .ok (.bipush 7, 2) := by decide +kernel
theorem dX3_writes_72 : decode cX3_writes 72 = .ok (.iconst 2, 1) := by decide +kernel
theorem dX3_writes_73 : decode cX3_writes 73 = .ok (.iload_n 3, 1) := by decide +kernel
theorem dX3_writes_74 : decode cX3_writes 74 = .ok (.imul, 1) := by decide +kernel
theorem dX3_writes_75 : decode cX3_writes 75 = .ok (.iadd, 1) := by decide +kernel
theorem dX3_writes_76 : decode cX3_writes 76 = .ok (.iconst 1, 1) := by decide +kernel
theorem dX3_writes_77 : decode cX3_writes 77 = .ok (.iadd, 1) := by decide +kernel
theorem dX3_writes_78 : decode cX3_writes 78 = .ok (.iload_n 2, 1) := by decide +kernel
theorem dX3_writes_79 : decode cX3_writes 79 = .ok (.invokevirtual 82, 3) := by decide +kernel
theorem dX3_writes_82 : decode cX3_writes 82 = .ok (.aload_n 0, 1) := by decide +kernel
theorem dX3_writes_83 : decode cX3_writes 83 = .ok (.iload_n 1, 1) := by decide +kernel
theorem dX3_writes_84 : decode cX3_writes 84 = .ok (.bipush 6, 2) := by decide +kernel
theorem dX3_writes_86 : decode cX3_writes 86 = .ok (.iload_n 3, 1) := by decide +kernel
theorem dX3_writes_87 : decode cX3_writes 87 = .ok (.iconst 1, 1) := by decide +kernel
theorem dX3_writes_88 : decode cX3_writes 88 = .ok (.iadd, 1) := by decide +kernel
theorem dX3_writes_89 : decode cX3_writes 89 = .ok (.invokevirtual 82, 3) := by decide +kernel
theorem dX3_writes_92 : decode cX3_writes 92 = .ok (.aload_n 0, 1) := by decide +kernel
theorem dX3_writes_93 : decode cX3_writes 93 = .ok (.getfield 9, 3) := by decide +kernel
theorem dX3_writes_96 : decode cX3_writes 96 = .ok (.iconst 2, 1) := by decide +kernel
theorem dX3_writes_97 : decode cX3_writes 97 = .ok (.dup2, 1) := by decide +kernel
theorem dX3_writes_98 : decode cX3_writes 98 = .ok (.iaload, 1) := by decide +kernel
theorem dX3_writes_99 : decode cX3_writes 99 = .ok (.iconst 1, 1) := by decide +kernel
theorem dX3_writes_100 : decode cX3_writes 100 = .ok (.iadd, 1) := by decide +kernel
theorem dX3_writes_101 : decode cX3_writes 101 = .ok (.iastore, 1) := by decide +kernel
theorem dX3_writes_102 : decode cX3_writes 102 = .ok (.iload_n 3, 1) := by decide +kernel
theorem dX3_writes_103 : decode cX3_writes 103 = .ok (.iconst 1, 1) := by decide +kernel
theorem dX3_writes_104 : decode cX3_writes 104 = .ok (.iadd, 1) := by decide +kernel
theorem dX3_writes_105 : decode cX3_writes 105 = .ok (.ireturn, 1) := by decide +kernel
set_option maxRecDepth 20000 in
theorem ggX3_write_X3_tries : GoodIn wsX3_write wsX3_tries := goodIn_r _ [5, 6, 7, 47, 48, 49, 50, 51, 52, 53, 54, 55, 56, 57, 58, 59, 60, 61, 62, 63] (by decide +kernel) (by decide +kernel)
set_option maxRecDepth 20000 in
theorem gX3_write_X3_tries : GoodIn wsX3_write (wsV RX3 106 RX3 yX3_tries wsX3_tries) := goodIn_app (goodIn_of _ (by decide +kernel)) ggX3_write_X3_tries
set_option maxRecDepth 20000 in
theorem ggX3_write_X3_writes : GoodIn wsX3_write wsX3_writes := goodIn_r _ [11, 7, 12, 13, 4, 14, 15, 16, 17, 18, 19, 20, 21, 22, 23, 24, 25, 26, 27, 28, 29, 30, 31, 32, 33, 34, 35, 36, 37, 38, 39, 40, 47, 48, 49, 50, 51, 52, 53, 54, 55, 56, 57, 58, 59, 60, 61, 62, 63] (by decide +kernel) (by decide +kernel)
set_option maxRecDepth 20000 in
theorem gX3_write_X3_writes : GoodIn wsX3_write (wsV RX3 118 RX3 yX3_writes wsX3_writes) := goodIn_app (goodIn_of _ (by decide +kernel)) ggX3_write_X3_writes
set_option maxRecDepth 20000 in
theorem ggX3_write_X3_ends : GoodIn wsX3_write wsX3_ends := goodIn_r _ [44, 7, 6, 45, 46, 47, 48, 49, 50, 51, 52, 53, 54, 55, 56, 57, 58, 59, 60, 61, 62, 63] (by decide +kernel) (by decide +kernel)
set_option maxRecDepth 20000 in
theorem gX3_write_X3_ends : GoodIn wsX3_write (wsV RX3 112 RX3 yX3_ends wsX3_ends) := goodIn_app (goodIn_of _ (by decide +kernel)) ggX3_write_X3_ends
theorem dX3_write_0 : decode cX3_write 0 = .ok (.aload_n 0, 1) := by decide +kernel
theorem dX3_write_1 : decode cX3_write 1 = .ok (.invokevirtual 106, 3) := by decide +kernel
theorem dX3_write_4 : decode cX3_write 4 = .ok (.aload_n 0, 1) := by decide +kernel
theorem dX3_write_5 : decode cX3_write 5 = .ok (.aload_n 0, 1) := by decide +kernel
theorem dX3_write_6 : decode cX3_write 6 = .ok (.iload_n 1, 1) := by decide +kernel
theorem dX3_write_7 : decode cX3_write 7 = .ok (.iload_n 2, 1) := by decide +kernel
theorem dX3_write_8 : decode cX3_write 8 = .ok (.invokevirtual 118, 3) := by decide +kernel
theorem dX3_write_11 : decode cX3_write 11 = .ok (.invokevirtual 112, 3) := by decide +kernel
theorem dX3_write_14 : decode cX3_write 14 = .ok (.ireturn, 1) := by decide +kernel
set_option maxRecDepth 20000 in
theorem ggX3_copies_X3_alike : GoodIn wsX3_copies wsX3_alike := goodIn_r _ [6, 7, 8, 9, 5, 10, 1, 11, 12, 13, 14, 15, 16, 17, 18, 23, 24, 25, 26, 27, 28, 29, 30, 31, 32, 33, 34, 35, 36, 37, 38, 39] (by decide +kernel) (by decide +kernel)
set_option maxRecDepth 20000 in
theorem gX3_copies_X3_alike : GoodIn wsX3_copies (wsV RX3 121 RX3 yX3_alike wsX3_alike) := goodIn_app (goodIn_of _ (by decide +kernel)) ggX3_copies_X3_alike
set_option maxRecDepth 20000 in
theorem ggX3_copies_X3_of : GoodIn wsX3_copies wsX3_of := goodIn_r _ [10, 1, 23, 24, 25, 26, 27, 28, 29, 30, 31, 32, 33, 34, 35, 36, 37, 38, 39] (by decide +kernel) (by decide +kernel)
set_option maxRecDepth 20000 in
theorem gX3_copies_X3_of : GoodIn wsX3_copies (wsV RX3 52 RX3 yX3_of wsX3_of) := goodIn_app (goodIn_of _ (by decide +kernel)) ggX3_copies_X3_of
set_option maxRecDepth 20000 in
theorem ggX3_copies_X3_sets : GoodIn wsX3_copies wsX3_sets := goodIn_r _ [22, 1, 23, 24, 25, 26, 27, 28, 29, 30, 31, 32, 33, 34, 35, 36, 37, 38, 39] (by decide +kernel) (by decide +kernel)
set_option maxRecDepth 20000 in
theorem gX3_copies_X3_sets : GoodIn wsX3_copies (wsV RX3 82 RX3 yX3_sets wsX3_sets) := goodIn_app (goodIn_of _ (by decide +kernel)) ggX3_copies_X3_sets
set_option maxRecDepth 20000 in
theorem ggX3_copies_X3_page : GoodIn wsX3_copies wsX3_page := goodIn_r _ [18, 7, 8, 9, 5, 10, 1, 23, 24, 25, 26, 27, 28, 29, 30, 31, 32, 33, 34, 35, 36, 37, 38, 39] (by decide +kernel) (by decide +kernel)
set_option maxRecDepth 20000 in
theorem gX3_copies_X3_page : GoodIn wsX3_copies (wsV RX3 71 RX3 yX3_page wsX3_page) := goodIn_app (goodIn_of _ (by decide +kernel)) ggX3_copies_X3_page
theorem dX3_copies_0 : decode cX3_copies 0 = .ok (.aload_n 0, 1) := by decide +kernel
theorem dX3_copies_1 : decode cX3_copies 1 = .ok (.iload_n 1, 1) := by decide +kernel
theorem dX3_copies_2 : decode cX3_copies 2 = .ok (.iload_n 2, 1) := by decide +kernel
theorem dX3_copies_3 : decode cX3_copies 3 = .ok (.invokevirtual 121, 3) := by decide +kernel
theorem dX3_copies_6 : decode cX3_copies 6 = .ok (.istore_n 3, 1) := by decide +kernel
theorem dX3_copies_7 : decode cX3_copies 7 = .ok (.iload_n 3, 1) := by decide +kernel
theorem dX3_copies_8 : decode cX3_copies 8 = .ok (.aload_n 0, 1) := by decide +kernel
theorem dX3_copies_9 : decode cX3_copies 9 = .ok (.iload_n 2, 1) := by decide +kernel
theorem dX3_copies_10 : decode cX3_copies 10 = .ok (.bipush 6, 2) := by decide +kernel
theorem dX3_copies_12 : decode cX3_copies 12 = .ok (.invokevirtual 52, 3) := by decide +kernel
theorem dX3_copies_15 : decode cX3_copies 15 = .ok (.if_icmp .ge 40, 3) := by decide +kernel
theorem dX3_copies_18 : decode cX3_copies 18 = .ok (.iload_n 3, 1) := by decide +kernel
theorem dX3_copies_19 : decode cX3_copies 19 = .ok (.aload_n 0, 1) := by decide +kernel
theorem dX3_copies_20 : decode cX3_copies 20 = .ok (.iload_n 1, 1) := by decide +kernel
theorem dX3_copies_21 : decode cX3_copies 21 = .ok (.bipush 6, 2) := by decide +kernel
theorem dX3_copies_23 : decode cX3_copies 23 = .ok (.invokevirtual 52, 3) := by decide +kernel
theorem dX3_copies_26 : decode cX3_copies 26 = .ok (.if_icmp .ge 29, 3) := by decide +kernel
theorem dX3_copies_29 : decode cX3_copies 29 = .ok (.aload_n 0, 1) := by decide +kernel
theorem dX3_copies_30 : decode cX3_copies 30 = .ok (.getfield 9, 3) := by decide +kernel
theorem dX3_copies_33 : decode cX3_copies 33 = .ok (.iconst 3, 1) := by decide +kernel
theorem dX3_copies_34 : decode cX3_copies 34 = .ok (.dup2, 1) := by decide +kernel
theorem dX3_copies_35 : decode cX3_copies 35 = .ok (.iaload, 1) := by decide +kernel
theorem dX3_copies_36 : decode cX3_copies 36 = .ok (.aload_n 0, 1) := by decide +kernel
theorem dX3_copies_37 : decode cX3_copies 37 = .ok (.iload_n 2, 1) := by decide +kernel
theorem dX3_copies_38 : decode cX3_copies 38 = .ok (.bipush 6, 2) := by decide +kernel
theorem dX3_copies_40 : decode cX3_copies 40 = .ok (.invokevirtual 52, 3) := by decide +kernel
theorem dX3_copies_43 : decode cX3_copies 43 = .ok (.iload_n 3, 1) := by decide +kernel
theorem dX3_copies_44 : decode cX3_copies 44 = .ok (.isub, 1) := by decide +kernel
theorem dX3_copies_45 : decode cX3_copies 45 = .ok (.iadd, 1) := by decide +kernel
theorem dX3_copies_46 : decode cX3_copies 46 = .ok (.iastore, 1) := by decide +kernel
theorem dX3_copies_47 : decode cX3_copies 47 = .ok (.aload_n 0, 1) := by decide +kernel
theorem dX3_copies_48 : decode cX3_copies 48 = .ok (.iload_n 2, 1) := by decide +kernel
theorem dX3_copies_49 : decode cX3_copies 49 = .ok (.bipush 6, 2) := by decide +kernel
theorem dX3_copies_51 : decode cX3_copies 51 = .ok (.iload_n 3, 1) := by decide +kernel
theorem dX3_copies_52 : decode cX3_copies 52 = .ok (.invokevirtual 82, 3) := by decide +kernel
theorem dX3_copies_55 : decode cX3_copies 55 = .ok (.aload_n 0, 1) := by decide +kernel
theorem dX3_copies_56 : decode cX3_copies 56 = .ok (.iload_n 2, 1) := by decide +kernel
theorem dX3_copies_57 : decode cX3_copies 57 = .ok (.bipush 6, 2) := by decide +kernel
theorem dX3_copies_59 : decode cX3_copies 59 = .ok (.invokevirtual 52, 3) := by decide +kernel
theorem dX3_copies_62 : decode cX3_copies 62 = .ok (.istore 4, 2) := by decide +kernel
theorem dX3_copies_64 : decode cX3_copies 64 = .ok (.iload 4, 2) := by decide +kernel
theorem dX3_copies_66 : decode cX3_copies 66 = .ok (.aload_n 0, 1) := by decide +kernel
theorem dX3_copies_67 : decode cX3_copies 67 = .ok (.iload_n 1, 1) := by decide +kernel
theorem dX3_copies_68 : decode cX3_copies 68 = .ok (.bipush 6, 2) := by decide +kernel
theorem dX3_copies_70 : decode cX3_copies 70 = .ok (.invokevirtual 52, 3) := by decide +kernel
theorem dX3_copies_73 : decode cX3_copies 73 = .ok (.if_icmp .ge 62, 3) := by decide +kernel
theorem dX3_copies_76 : decode cX3_copies 76 = .ok (.aload_n 0, 1) := by decide +kernel
theorem dX3_copies_77 : decode cX3_copies 77 = .ok (.iload_n 2, 1) := by decide +kernel
theorem dX3_copies_78 : decode cX3_copies 78 = .ok (.bipush 7, 2) := by decide +kernel
theorem dX3_copies_80 : decode cX3_copies 80 = .ok (.iconst 2, 1) := by decide +kernel
theorem dX3_copies_81 : decode cX3_copies 81 = .ok (.iload 4, 2) := by decide +kernel
theorem dX3_copies_83 : decode cX3_copies 83 = .ok (.imul, 1) := by decide +kernel
theorem dX3_copies_84 : decode cX3_copies 84 = .ok (.iadd, 1) := by decide +kernel
theorem dX3_copies_85 : decode cX3_copies 85 = .ok (.aload_n 0, 1) := by decide +kernel
theorem dX3_copies_86 : decode cX3_copies 86 = .ok (.iload_n 1, 1) := by decide +kernel
theorem dX3_copies_87 : decode cX3_copies 87 = .ok (.iload 4, 2) := by decide +kernel
theorem dX3_copies_89 : decode cX3_copies 89 = .ok (.iconst 0, 1) := by decide +kernel
theorem dX3_copies_90 : decode cX3_copies 90 = .ok (.invokevirtual 71, 3) := by decide +kernel
theorem dX3_copies_93 : decode cX3_copies 93 = .ok (.invokevirtual 82, 3) := by decide +kernel
theorem dX3_copies_96 : decode cX3_copies 96 = .ok (.aload_n 0, 1) := by decide +kernel
theorem dX3_copies_97 : decode cX3_copies 97 = .ok (.iload_n 2, 1) := by decide +kernel
theorem dX3_copies_98 : decode cX3_copies 98 = .ok (.bipush 7, 2) := by decide +kernel
theorem dX3_copies_100 : decode cX3_copies 100 = .ok (.iconst 2, 1) := by decide +kernel
theorem dX3_copies_101 : decode cX3_copies 101 = .ok (.iload 4, 2) := by decide +kernel
theorem dX3_copies_103 : decode cX3_copies 103 = .ok (.imul, 1) := by decide +kernel
theorem dX3_copies_104 : decode cX3_copies 104 = .ok (.iadd, 1) := by decide +kernel
theorem dX3_copies_105 : decode cX3_copies 105 = .ok (.iconst 1, 1) := by decide +kernel
theorem dX3_copies_106 : decode cX3_copies 106 = .ok (.iadd, 1) := by decide +kernel
theorem dX3_copies_107 : decode cX3_copies 107 = .ok (.aload_n 0, 1) := by decide +kernel
theorem dX3_copies_108 : decode cX3_copies 108 = .ok (.iload_n 1, 1) := by decide +kernel
theorem dX3_copies_109 : decode cX3_copies 109 = .ok (.iload 4, 2) := by decide +kernel
theorem dX3_copies_111 : decode cX3_copies 111 = .ok (.iconst 1, 1) := by decide +kernel
theorem dX3_copies_112 : decode cX3_copies 112 = .ok (.invokevirtual 71, 3) := by decide +kernel
theorem dX3_copies_115 : decode cX3_copies 115 = .ok (.invokevirtual 82, 3) := by decide +kernel
theorem dX3_copies_118 : decode cX3_copies 118 = .ok (.aload_n 0, 1) := by decide +kernel
theorem dX3_copies_119 : decode cX3_copies 119 = .ok (.iload_n 2, 1) := by decide +kernel
theorem dX3_copies_120 : decode cX3_copies 120 = .ok (.bipush 6, 2) := by decide +kernel
theorem dX3_copies_122 : decode cX3_copies 122 = .ok (.iload 4, 2) := by decide +kernel
theorem dX3_copies_124 : decode cX3_copies 124 = .ok (.iconst 1, 1) := by decide +kernel
theorem dX3_copies_125 : decode cX3_copies 125 = .ok (.iadd, 1) := by decide +kernel
theorem dX3_copies_126 : decode cX3_copies 126 = .ok (.invokevirtual 82, 3) := by decide +kernel
theorem dX3_copies_129 : decode cX3_copies 129 = .ok (.iinc 4 1, 3) := by decide +kernel
theorem dX3_copies_132 : decode cX3_copies 132 = .ok (.goto (-68), 3) := by decide +kernel
theorem dX3_copies_135 : decode cX3_copies 135 = .ok (.return_, 1) := by decide +kernel
set_option maxRecDepth 20000 in
theorem ggX3_goes_X3_isReached : GoodIn wsX3_goes wsX3_isReached := goodIn_r _ [10, 1, 11, 12, 13, 9, 14, 15, 16, 17, 18, 19, 20, 21, 22, 23, 4, 24, 2, 3, 5, 49, 50, 51, 52, 53, 54, 55, 56, 57, 58, 59, 60, 61, 62, 63, 64, 65] (by decide +kernel) (by decide +kernel)
set_option maxRecDepth 20000 in
theorem gX3_goes_X3_isReached : GoodIn wsX3_goes (wsV RX3 86 RX3 yX3_isReached wsX3_isReached) := goodIn_app (goodIn_of _ (by decide +kernel)) ggX3_goes_X3_isReached
set_option maxRecDepth 20000 in
theorem ggX3_goes_X3_of : GoodIn wsX3_goes wsX3_of := goodIn_r _ [18, 1, 49, 50, 51, 52, 53, 54, 55, 56, 57, 58, 59, 60, 61, 62, 63, 64, 65] (by decide +kernel) (by decide +kernel)
set_option maxRecDepth 20000 in
theorem gX3_goes_X3_of : GoodIn wsX3_goes (wsV RX3 52 RX3 yX3_of wsX3_of) := goodIn_app (goodIn_of _ (by decide +kernel)) ggX3_goes_X3_of
set_option maxRecDepth 20000 in
theorem ggX3_goes_X3_tellsNoVote : GoodIn wsX3_goes wsX3_tellsNoVote := goodIn_r _ [28, 29, 30, 31, 9, 32, 1, 49, 50, 51, 52, 53, 54, 55, 56, 57, 58, 59, 60, 61, 62, 63, 64, 65] (by decide +kernel) (by decide +kernel)
set_option maxRecDepth 20000 in
theorem gX3_goes_X3_tellsNoVote : GoodIn wsX3_goes (wsV RX3 90 RX3 yX3_tellsNoVote wsX3_tellsNoVote) := goodIn_app (goodIn_of _ (by decide +kernel)) ggX3_goes_X3_tellsNoVote
set_option maxRecDepth 20000 in
theorem ggX3_goes_X3_sets : GoodIn wsX3_goes wsX3_sets := goodIn_r _ [32, 1, 49, 50, 51, 52, 53, 54, 55, 56, 57, 58, 59, 60, 61, 62, 63, 64, 65] (by decide +kernel) (by decide +kernel)
set_option maxRecDepth 20000 in
theorem gX3_goes_X3_sets : GoodIn wsX3_goes (wsV RX3 82 RX3 yX3_sets wsX3_sets) := goodIn_app (goodIn_of _ (by decide +kernel)) ggX3_goes_X3_sets
set_option maxRecDepth 20000 in
theorem ggX3_goes_X3_copies : GoodIn wsX3_goes wsX3_copies := goodIn_r _ [36, 1, 37, 38, 39, 9, 40, 15, 16, 17, 18, 41, 42, 43, 44, 45, 46, 47, 48, 29, 30, 31, 32, 49, 50, 51, 52, 53, 54, 55, 56, 57, 58, 59, 60, 61, 62, 63, 64, 65] (by decide +kernel) (by decide +kernel)
set_option maxRecDepth 20000 in
theorem gX3_goes_X3_copies : GoodIn wsX3_goes (wsV RX3 124 RX3 yX3_copies wsX3_copies) := goodIn_app (goodIn_of _ (by decide +kernel)) ggX3_goes_X3_copies
set_option maxRecDepth 20000 in
theorem ggX3_goes_X3_alike : GoodIn wsX3_goes wsX3_alike := goodIn_r _ [40, 15, 16, 17, 9, 18, 1, 41, 42, 43, 44, 45, 46, 47, 48, 49, 50, 51, 52, 53, 54, 55, 56, 57, 58, 59, 60, 61, 62, 63, 64, 65] (by decide +kernel) (by decide +kernel)
set_option maxRecDepth 20000 in
theorem gX3_goes_X3_alike : GoodIn wsX3_goes (wsV RX3 121 RX3 yX3_alike wsX3_alike) := goodIn_app (goodIn_of _ (by decide +kernel)) ggX3_goes_X3_alike
set_option maxRecDepth 20000 in
theorem ggX3_goes_X3_page : GoodIn wsX3_goes wsX3_page := goodIn_r _ [48, 15, 16, 17, 9, 18, 1, 49, 50, 51, 52, 53, 54, 55, 56, 57, 58, 59, 60, 61, 62, 63, 64, 65] (by decide +kernel) (by decide +kernel)
set_option maxRecDepth 20000 in
theorem gX3_goes_X3_page : GoodIn wsX3_goes (wsV RX3 71 RX3 yX3_page wsX3_page) := goodIn_app (goodIn_of _ (by decide +kernel)) ggX3_goes_X3_page
theorem dX3_goes_0 : decode cX3_goes 0 = .ok (.aload_n 0, 1) := by decide +kernel
theorem dX3_goes_1 : decode cX3_goes 1 = .ok (.getfield 9, 3) := by decide +kernel
theorem dX3_goes_4 : decode cX3_goes 4 = .ok (.iconst 4, 1) := by decide +kernel
theorem dX3_goes_5 : decode cX3_goes 5 = .ok (.dup2, 1) := by decide +kernel
theorem dX3_goes_6 : decode cX3_goes 6 = .ok (.iaload, 1) := by decide +kernel
theorem dX3_goes_7 : decode cX3_goes 7 = .ok (.iconst 1, 1) := by decide +kernel
theorem dX3_goes_8 : decode cX3_goes 8 = .ok (.iadd, 1) := by decide +kernel
theorem dX3_goes_9 : decode cX3_goes 9 = .ok (.iastore, 1) := by decide +kernel
theorem dX3_goes_10 : decode cX3_goes 10 = .ok (.iconst 0, 1) := by decide +kernel
theorem dX3_goes_11 : decode cX3_goes 11 = .ok (.istore_n 2, 1) := by decide +kernel
theorem dX3_goes_12 : decode cX3_goes 12 = .ok (.iconst 0, 1) := by decide +kernel
theorem dX3_goes_13 : decode cX3_goes 13 = .ok (.istore_n 3, 1) := by decide +kernel
theorem dX3_goes_14 : decode cX3_goes 14 = .ok (.iload_n 3, 1) := by decide +kernel
theorem dX3_goes_15 : decode cX3_goes 15 = .ok (.iconst 5, 1) := by decide +kernel
theorem dX3_goes_16 : decode cX3_goes 16 = .ok (.if_icmp .ge 113, 3) := by decide +kernel
theorem dX3_goes_19 : decode cX3_goes 19 = .ok (.aload_n 0, 1) := by decide +kernel
theorem dX3_goes_20 : decode cX3_goes 20 = .ok (.iload_n 1, 1) := by decide +kernel
theorem dX3_goes_21 : decode cX3_goes 21 = .ok (.iload_n 3, 1) := by decide +kernel
theorem dX3_goes_22 : decode cX3_goes 22 = .ok (.invokevirtual 86, 3) := by decide +kernel
theorem dX3_goes_25 : decode cX3_goes 25 = .ok (.ifCond .ne 6, 3) := by decide +kernel
theorem dX3_goes_28 : decode cX3_goes 28 = .ok (.goto 95, 3) := by decide +kernel
theorem dX3_goes_31 : decode cX3_goes 31 = .ok (.aload_n 0, 1) := by decide +kernel
theorem dX3_goes_32 : decode cX3_goes 32 = .ok (.iload_n 3, 1) := by decide +kernel
theorem dX3_goes_33 : decode cX3_goes 33 = .ok (.iconst 0, 1) := by decide +kernel
theorem dX3_goes_34 : decode cX3_goes 34 = .ok (.invokevirtual 52, 3) := by decide +kernel
theorem dX3_goes_37 : decode cX3_goes 37 = .ok (.aload_n 0, 1) := by decide +kernel
theorem dX3_goes_38 : decode cX3_goes 38 = .ok (.iload_n 1, 1) := by decide +kernel
theorem dX3_goes_39 : decode cX3_goes 39 = .ok (.iconst 0, 1) := by decide +kernel
theorem dX3_goes_40 : decode cX3_goes 40 = .ok (.invokevirtual 52, 3) := by decide +kernel
theorem dX3_goes_43 : decode cX3_goes 43 = .ok (.if_icmp .le 28, 3) := by decide +kernel
theorem dX3_goes_46 : decode cX3_goes 46 = .ok (.aload_n 0, 1) := by decide +kernel
theorem dX3_goes_47 : decode cX3_goes 47 = .ok (.iload_n 1, 1) := by decide +kernel
theorem dX3_goes_48 : decode cX3_goes 48 = .ok (.aload_n 0, 1) := by decide +kernel
theorem dX3_goes_49 : decode cX3_goes 49 = .ok (.iload_n 3, 1) := by decide +kernel
theorem dX3_goes_50 : decode cX3_goes 50 = .ok (.iconst 0, 1) := by decide +kernel
theorem dX3_goes_51 : decode cX3_goes 51 = .ok (.invokevirtual 52, 3) := by decide +kernel
theorem dX3_goes_54 : decode cX3_goes 54 = .ok (.invokevirtual 90, 3) := by decide +kernel
theorem dX3_goes_57 : decode cX3_goes 57 = .ok (.aload_n 0, 1) := by decide +kernel
theorem dX3_goes_58 : decode cX3_goes 58 = .ok (.iload_n 1, 1) := by decide +kernel
theorem dX3_goes_59 : decode cX3_goes 59 = .ok (.iconst 2, 1) := by decide +kernel
theorem dX3_goes_60 : decode cX3_goes 60 = .ok (.iconst 0, 1) := by decide +kernel
theorem dX3_goes_61 : decode cX3_goes 61 = .ok (.invokevirtual 82, 3) := by decide +kernel
theorem dX3_goes_64 : decode cX3_goes 64 = .ok (.aload_n 0, 1) := by decide +kernel
theorem dX3_goes_65 : decode cX3_goes 65 = .ok (.iload_n 1, 1) := by decide +kernel
theorem dX3_goes_66 : decode cX3_goes 66 = .ok (.iconst 5, 1) := by decide +kernel
theorem dX3_goes_67 : decode cX3_goes 67 = .ok (.invokevirtual 52, 3) := by decide +kernel
theorem dX3_goes_70 : decode cX3_goes 70 = .ok (.ireturn, 1) := by decide +kernel
theorem dX3_goes_71 : decode cX3_goes 71 = .ok (.aload_n 0, 1) := by decide +kernel
theorem dX3_goes_72 : decode cX3_goes 72 = .ok (.iload_n 3, 1) := by decide +kernel
theorem dX3_goes_73 : decode cX3_goes 73 = .ok (.iconst 0, 1) := by decide +kernel
theorem dX3_goes_74 : decode cX3_goes 74 = .ok (.invokevirtual 52, 3) := by decide +kernel
theorem dX3_goes_77 : decode cX3_goes 77 = .ok (.aload_n 0, 1) := by decide +kernel
theorem dX3_goes_78 : decode cX3_goes 78 = .ok (.iload_n 1, 1) := by decide +kernel
theorem dX3_goes_79 : decode cX3_goes 79 = .ok (.iconst 0, 1) := by decide +kernel
theorem dX3_goes_80 : decode cX3_goes 80 = .ok (.invokevirtual 52, 3) := by decide +kernel
theorem dX3_goes_83 : decode cX3_goes 83 = .ok (.if_icmp .ge 14, 3) := by decide +kernel
theorem dX3_goes_86 : decode cX3_goes 86 = .ok (.aload_n 0, 1) := by decide +kernel
theorem dX3_goes_87 : decode cX3_goes 87 = .ok (.iload_n 3, 1) := by decide +kernel
theorem dX3_goes_88 : decode cX3_goes 88 = .ok (.aload_n 0, 1) := by decide +kernel
theorem dX3_goes_89 : decode cX3_goes 89 = .ok (.iload_n 1, 1) := by decide +kernel
theorem dX3_goes_90 : decode cX3_goes 90 = .ok (.iconst 0, 1) := by decide +kernel
theorem dX3_goes_91 : decode cX3_goes 91 = .ok (.invokevirtual 52, 3) := by decide +kernel
theorem dX3_goes_94 : decode cX3_goes 94 = .ok (.invokevirtual 90, 3) := by decide +kernel
theorem dX3_goes_97 : decode cX3_goes 97 = .ok (.aload_n 0, 1) := by decide +kernel
theorem dX3_goes_98 : decode cX3_goes 98 = .ok (.iload_n 3, 1) := by decide +kernel
theorem dX3_goes_99 : decode cX3_goes 99 = .ok (.iconst 2, 1) := by decide +kernel
theorem dX3_goes_100 : decode cX3_goes 100 = .ok (.iconst 0, 1) := by decide +kernel
theorem dX3_goes_101 : decode cX3_goes 101 = .ok (.invokevirtual 82, 3) := by decide +kernel
theorem dX3_goes_104 : decode cX3_goes 104 = .ok (.aload_n 0, 1) := by decide +kernel
theorem dX3_goes_105 : decode cX3_goes 105 = .ok (.iload_n 3, 1) := by decide +kernel
theorem dX3_goes_106 : decode cX3_goes 106 = .ok (.iconst 4, 1) := by decide +kernel
theorem dX3_goes_107 : decode cX3_goes 107 = .ok (.iconst 0, 1) := by decide +kernel
theorem dX3_goes_108 : decode cX3_goes 108 = .ok (.invokevirtual 82, 3) := by decide +kernel
theorem dX3_goes_111 : decode cX3_goes 111 = .ok (.aload_n 0, 1) := by decide +kernel
theorem dX3_goes_112 : decode cX3_goes 112 = .ok (.iload_n 1, 1) := by decide +kernel
theorem dX3_goes_113 : decode cX3_goes 113 = .ok (.iload_n 3, 1) := by decide +kernel
theorem dX3_goes_114 : decode cX3_goes 114 = .ok (.invokevirtual 124, 3) := by decide +kernel
theorem dX3_goes_117 : decode cX3_goes 117 = .ok (.iload_n 2, 1) := by decide +kernel
theorem dX3_goes_118 : decode cX3_goes 118 = .ok (.iconst 1, 1) := by decide +kernel
theorem dX3_goes_119 : decode cX3_goes 119 = .ok (.iload_n 3, 1) := by decide +kernel
theorem dX3_goes_120 : decode cX3_goes 120 = .ok (.ishl, 1) := by decide +kernel
theorem dX3_goes_121 : decode cX3_goes 121 = .ok (.ior, 1) := by decide +kernel
theorem dX3_goes_122 : decode cX3_goes 122 = .ok (.istore_n 2, 1) := by decide +kernel
theorem dX3_goes_123 : decode cX3_goes 123 = .ok (.iinc 3 1, 3) := by decide +kernel
theorem dX3_goes_126 : decode cX3_goes 126 = .ok (.goto (-112), 3) := by decide +kernel
theorem dX3_goes_129 : decode cX3_goes 129 = .ok (.aload_n 0, 1) := by decide +kernel
theorem dX3_goes_130 : decode cX3_goes 130 = .ok (.iload_n 1, 1) := by decide +kernel
theorem dX3_goes_131 : decode cX3_goes 131 = .ok (.bipush 6, 2) := by decide +kernel
theorem dX3_goes_133 : decode cX3_goes 133 = .ok (.invokevirtual 52, 3) := by decide +kernel
theorem dX3_goes_136 : decode cX3_goes 136 = .ok (.istore_n 3, 1) := by decide +kernel
theorem dX3_goes_137 : decode cX3_goes 137 = .ok (.iload_n 3, 1) := by decide +kernel
theorem dX3_goes_138 : decode cX3_goes 138 = .ok (.aload_n 0, 1) := by decide +kernel
theorem dX3_goes_139 : decode cX3_goes 139 = .ok (.iload_n 1, 1) := by decide +kernel
theorem dX3_goes_140 : decode cX3_goes 140 = .ok (.iconst 5, 1) := by decide +kernel
theorem dX3_goes_141 : decode cX3_goes 141 = .ok (.invokevirtual 52, 3) := by decide +kernel
theorem dX3_goes_144 : decode cX3_goes 144 = .ok (.if_icmp .le 85, 3) := by decide +kernel
theorem dX3_goes_147 : decode cX3_goes 147 = .ok (.iconst 1, 1) := by decide +kernel
theorem dX3_goes_148 : decode cX3_goes 148 = .ok (.istore 4, 2) := by decide +kernel
theorem dX3_goes_150 : decode cX3_goes 150 = .ok (.iconst 0, 1) := by decide +kernel
theorem dX3_goes_151 : decode cX3_goes 151 = .ok (.istore 5, 2) := by decide +kernel
theorem dX3_goes_153 : decode cX3_goes 153 = .ok (.iload 5, 2) := by decide +kernel
theorem dX3_goes_155 : decode cX3_goes 155 = .ok (.iconst 5, 1) := by decide +kernel
theorem dX3_goes_156 : decode cX3_goes 156 = .ok (.if_icmp .ge 33, 3) := by decide +kernel
theorem dX3_goes_159 : decode cX3_goes 159 = .ok (.iload_n 2, 1) := by decide +kernel
theorem dX3_goes_160 : decode cX3_goes 160 = .ok (.iload 5, 2) := by decide +kernel
theorem dX3_goes_162 : decode cX3_goes 162 = .ok (.ishr, 1) := by decide +kernel
theorem dX3_goes_163 : decode cX3_goes 163 = .ok (.iconst 1, 1) := by decide +kernel
theorem dX3_goes_164 : decode cX3_goes 164 = .ok (.iand, 1) := by decide +kernel
theorem dX3_goes_165 : decode cX3_goes 165 = .ok (.iconst 1, 1) := by decide +kernel
theorem dX3_goes_166 : decode cX3_goes 166 = .ok (.if_icmp .ne 17, 3) := by decide +kernel
theorem dX3_goes_169 : decode cX3_goes 169 = .ok (.aload_n 0, 1) := by decide +kernel
theorem dX3_goes_170 : decode cX3_goes 170 = .ok (.iload_n 1, 1) := by decide +kernel
theorem dX3_goes_171 : decode cX3_goes 171 = .ok (.iload 5, 2) := by decide +kernel
theorem dX3_goes_173 : decode cX3_goes 173 = .ok (.invokevirtual 121, 3) := by decide +kernel
theorem dX3_goes_176 : decode cX3_goes 176 = .ok (.iload_n 3, 1) := by decide +kernel
theorem dX3_goes_177 : decode cX3_goes 177 = .ok (.if_icmp .lt 6, 3) := by decide +kernel
theorem dX3_goes_180 : decode cX3_goes 180 = .ok (.iinc 4 1, 3) := by decide +kernel
theorem dX3_goes_183 : decode cX3_goes 183 = .ok (.iinc 5 1, 3) := by decide +kernel
theorem dX3_goes_186 : decode cX3_goes 186 = .ok (.goto (-33), 3) := by decide +kernel
theorem dX3_goes_189 : decode cX3_goes 189 = .ok (.iload 4, 2) := by decide +kernel
theorem dX3_goes_191 : decode cX3_goes 191 = .ok (.iconst 3, 1) := by decide +kernel
theorem dX3_goes_192 : decode cX3_goes 192 = .ok (.if_icmp .lt 31, 3) := by decide +kernel
theorem dX3_goes_195 : decode cX3_goes 195 = .ok (.aload_n 0, 1) := by decide +kernel
theorem dX3_goes_196 : decode cX3_goes 196 = .ok (.iload_n 1, 1) := by decide +kernel
theorem dX3_goes_197 : decode cX3_goes 197 = .ok (.iload_n 3, 1) := by decide +kernel
theorem dX3_goes_198 : decode cX3_goes 198 = .ok (.iconst 1, 1) := by decide +kernel
theorem dX3_goes_199 : decode cX3_goes 199 = .ok (.isub, 1) := by decide +kernel
theorem dX3_goes_200 : decode cX3_goes 200 = .ok (.iconst 0, 1) := by decide +kernel
theorem dX3_goes_201 : decode cX3_goes 201 = .ok (.invokevirtual 71, 3) := by decide +kernel
theorem dX3_goes_204 : decode cX3_goes 204 = .ok (.aload_n 0, 1) := by decide +kernel
theorem dX3_goes_205 : decode cX3_goes 205 = .ok (.iload_n 1, 1) := by decide +kernel
theorem dX3_goes_206 : decode cX3_goes 206 = .ok (.iconst 0, 1) := by decide +kernel
theorem dX3_goes_207 : decode cX3_goes 207 = .ok (.invokevirtual 52, 3) := by decide +kernel
theorem dX3_goes_210 : decode cX3_goes 210 = .ok (.if_icmp .eq 6, 3) := by decide +kernel
theorem dX3_goes_213 : decode cX3_goes 213 = .ok (.goto 10, 3) := by decide +kernel
theorem dX3_goes_216 : decode cX3_goes 216 = .ok (.aload_n 0, 1) := by decide +kernel
theorem dX3_goes_217 : decode cX3_goes 217 = .ok (.iload_n 1, 1) := by decide +kernel
theorem dX3_goes_218 : decode cX3_goes 218 = .ok (.iconst 5, 1) := by decide +kernel
theorem dX3_goes_219 : decode cX3_goes 219 = .ok (.iload_n 3, 1) := by decide +kernel
theorem dX3_goes_220 : decode cX3_goes 220 = .ok (.invokevirtual 82, 3) := by decide +kernel
theorem dX3_goes_223 : decode cX3_goes 223 = .ok (.iinc 3 (-1), 3) := by decide +kernel
theorem dX3_goes_226 : decode cX3_goes 226 = .ok (.goto (-89), 3) := by decide +kernel
theorem dX3_goes_229 : decode cX3_goes 229 = .ok (.iconst 0, 1) := by decide +kernel
theorem dX3_goes_230 : decode cX3_goes 230 = .ok (.istore_n 3, 1) := by decide +kernel
theorem dX3_goes_231 : decode cX3_goes 231 = .ok (.iload_n 3, 1) := by decide +kernel
theorem dX3_goes_232 : decode cX3_goes 232 = .ok (.iconst 5, 1) := by decide +kernel
theorem dX3_goes_233 : decode cX3_goes 233 = .ok (.if_icmp .ge 39, 3) := by decide +kernel
theorem dX3_goes_236 : decode cX3_goes 236 = .ok (.iload_n 2, 1) := by decide +kernel
theorem dX3_goes_237 : decode cX3_goes 237 = .ok (.iload_n 3, 1) := by decide +kernel
theorem dX3_goes_238 : decode cX3_goes 238 = .ok (.ishr, 1) := by decide +kernel
theorem dX3_goes_239 : decode cX3_goes 239 = .ok (.iconst 1, 1) := by decide +kernel
theorem dX3_goes_240 : decode cX3_goes 240 = .ok (.iand, 1) := by decide +kernel
theorem dX3_goes_241 : decode cX3_goes 241 = .ok (.iconst 1, 1) := by decide +kernel
theorem dX3_goes_242 : decode cX3_goes 242 = .ok (.if_icmp .ne 24, 3) := by decide +kernel
theorem dX3_goes_245 : decode cX3_goes 245 = .ok (.aload_n 0, 1) := by decide +kernel
theorem dX3_goes_246 : decode cX3_goes 246 = .ok (.iload_n 3, 1) := by decide +kernel
theorem dX3_goes_247 : decode cX3_goes 247 = .ok (.iconst 5, 1) := by decide +kernel
theorem dX3_goes_248 : decode cX3_goes 248 = .ok (.aload_n 0, 1) := by decide +kernel
theorem dX3_goes_249 : decode cX3_goes 249 = .ok (.iload_n 3, 1) := by decide +kernel
theorem dX3_goes_250 : decode cX3_goes 250 = .ok (.iconst 5, 1) := by decide +kernel
theorem dX3_goes_251 : decode cX3_goes 251 = .ok (.invokevirtual 52, 3) := by decide +kernel
theorem dX3_goes_254 : decode cX3_goes 254 = .ok (.aload_n 0, 1) := by decide +kernel
theorem dX3_goes_255 : decode cX3_goes 255 = .ok (.iload_n 1, 1) := by decide +kernel
theorem dX3_goes_256 : decode cX3_goes 256 = .ok (.iconst 5, 1) := by decide +kernel
theorem dX3_goes_257 : decode cX3_goes 257 = .ok (.invokevirtual 52, 3) := by decide +kernel
theorem dX3_goes_260 : decode cX3_goes 260 = .ok (.invokestatic 61, 3) := by decide +kernel
theorem dX3_goes_263 : decode cX3_goes 263 = .ok (.invokevirtual 82, 3) := by decide +kernel
theorem dX3_goes_266 : decode cX3_goes 266 = .ok (.iinc 3 1, 3) := by decide +kernel
theorem dX3_goes_269 : decode cX3_goes 269 = .ok (.goto (-38), 3) := by decide +kernel
theorem dX3_goes_272 : decode cX3_goes 272 = .ok (.aload_n 0, 1) := by decide +kernel
theorem dX3_goes_273 : decode cX3_goes 273 = .ok (.iload_n 1, 1) := by decide +kernel
theorem dX3_goes_274 : decode cX3_goes 274 = .ok (.iconst 5, 1) := by decide +kernel
theorem dX3_goes_275 : decode cX3_goes 275 = .ok (.invokevirtual 52, 3) := by decide +kernel
theorem dX3_goes_278 : decode cX3_goes 278 = .ok (.ireturn, 1) := by decide +kernel
set_option maxRecDepth 20000 in
theorem ggX3_marches_X3_isCamp : GoodIn wsX3_marches wsX3_isCamp := goodIn_r _ [4, 5, 6, 3, 7] (by decide +kernel) (by decide +kernel)
set_option maxRecDepth 20000 in
theorem gX3_marches_X3_isCamp : GoodIn wsX3_marches (va_wsS RX3 97 yX3_isCamp wsX3_isCamp) := goodIn_app (goodIn_of _ (by decide +kernel)) ggX3_marches_X3_isCamp
set_option maxRecDepth 20000 in
theorem ggX3_marches_X3_lacks : GoodIn wsX3_marches wsX3_lacks := goodIn_r _ [11, 12, 13, 14, 3, 15, 16, 17, 18, 19, 20, 21, 22, 23, 24, 25, 26, 27, 70, 71, 72, 73, 74, 75, 76, 77, 78, 79, 80, 81, 82, 83, 84, 85, 86] (by decide +kernel) (by decide +kernel)
set_option maxRecDepth 20000 in
theorem gX3_marches_X3_lacks : GoodIn wsX3_marches (wsV RX3 115 RX3 yX3_lacks wsX3_lacks) := goodIn_app (goodIn_of _ (by decide +kernel)) ggX3_marches_X3_lacks
set_option maxRecDepth 20000 in
theorem ggX3_marches_X3_goes : GoodIn wsX3_marches wsX3_goes := goodIn_r _ [31, 20, 32, 33, 34, 35, 36, 37, 38, 3, 39, 12, 13, 14, 15, 16, 17, 18, 19, 40, 41, 42, 43, 44, 45, 46, 47, 48, 49, 50, 51, 52, 53, 54, 55, 56, 57, 58, 59, 60, 61, 62, 63, 64, 65, 66, 67, 68, 69, 70, 71, 72, 73, 74, 75, 76, 77, 78, 79, 80, 81, 82, 83, 84, 85, 86] (by decide +kernel) (by decide +kernel)
set_option maxRecDepth 20000 in
theorem gX3_marches_X3_goes : GoodIn wsX3_marches (wsV RX3 127 RX3 yX3_goes wsX3_goes) := goodIn_app (goodIn_of _ (by decide +kernel)) ggX3_marches_X3_goes
theorem dX3_marches_0 : decode cX3_marches 0 = .ok (.iload_n 1, 1) := by decide +kernel
theorem dX3_marches_1 : decode cX3_marches 1 = .ok (.invokestatic 97, 3) := by decide +kernel
theorem dX3_marches_4 : decode cX3_marches 4 = .ok (.ifCond .ne 5, 3) := by decide +kernel
theorem dX3_marches_7 : decode cX3_marches 7 = .ok (.iconst (-1), 1) := by decide +kernel
theorem dX3_marches_8 : decode cX3_marches 8 = .ok (.ireturn, 1) := by decide +kernel
theorem dX3_marches_9 : decode cX3_marches 9 = .ok (.aload_n 0, 1) := by decide +kernel
theorem dX3_marches_10 : decode cX3_marches 10 = .ok (.iload_n 1, 1) := by decide +kernel
theorem dX3_marches_11 : decode cX3_marches 11 = .ok (.invokevirtual 115, 3) := by decide +kernel
theorem dX3_marches_14 : decode cX3_marches 14 = .ok (.ifCond .ge 8, 3) := by decide +kernel
theorem dX3_marches_17 : decode cX3_marches 17 = .ok (.bipush (-3), 2) := by decide +kernel
theorem dX3_marches_19 : decode cX3_marches 19 = .ok (.goto 8, 3) := by decide +kernel
theorem dX3_marches_22 : decode cX3_marches 22 = .ok (.aload_n 0, 1) := by decide +kernel
theorem dX3_marches_23 : decode cX3_marches 23 = .ok (.iload_n 1, 1) := by decide +kernel
theorem dX3_marches_24 : decode cX3_marches 24 = .ok (.invokevirtual 127, 3) := by decide +kernel
theorem dX3_marches_27 : decode cX3_marches 27 = .ok (.ireturn, 1) := by decide +kernel
set_option maxRecDepth 20000 in
theorem ggX3_march_X3_tries : GoodIn wsX3_march wsX3_tries := goodIn_r _ [5, 6, 7, 85, 86, 87, 88, 89, 90, 91, 92, 93, 94, 95, 96, 97, 98, 99, 100, 101] (by decide +kernel) (by decide +kernel)
set_option maxRecDepth 20000 in
theorem gX3_march_X3_tries : GoodIn wsX3_march (wsV RX3 106 RX3 yX3_tries wsX3_tries) := goodIn_app (goodIn_of _ (by decide +kernel)) ggX3_march_X3_tries
set_option maxRecDepth 20000 in
theorem ggX3_march_X3_marches : GoodIn wsX3_march wsX3_marches := goodIn_r _ [11, 12, 13, 4, 14, 15, 16, 17, 18, 19, 20, 21, 22, 23, 24, 25, 26, 27, 28, 29, 7, 30, 31, 32, 33, 34, 35, 36, 37, 38, 39, 40, 41, 42, 43, 44, 45, 46, 47, 48, 49, 50, 51, 52, 53, 54, 55, 56, 57, 58, 59, 60, 61, 62, 63, 64, 65, 66, 67, 68, 69, 70, 71, 72, 73, 74, 75, 76, 77, 78, 85, 86, 87, 88, 89, 90, 91, 92, 93, 94, 95, 96, 97, 98, 99, 100, 101] (by decide +kernel) (by decide +kernel)
set_option maxRecDepth 20000 in
theorem gX3_march_X3_marches : GoodIn wsX3_march (wsV RX3 130 RX3 yX3_marches wsX3_marches) := goodIn_app (goodIn_of _ (by decide +kernel)) ggX3_march_X3_marches
set_option maxRecDepth 20000 in
theorem ggX3_march_X3_ends : GoodIn wsX3_march wsX3_ends := goodIn_r _ [82, 7, 6, 83, 84, 85, 86, 87, 88, 89, 90, 91, 92, 93, 94, 95, 96, 97, 98, 99, 100, 101] (by decide +kernel) (by decide +kernel)
set_option maxRecDepth 20000 in
theorem gX3_march_X3_ends : GoodIn wsX3_march (wsV RX3 112 RX3 yX3_ends wsX3_ends) := goodIn_app (goodIn_of _ (by decide +kernel)) ggX3_march_X3_ends
theorem dX3_march_0 : decode cX3_march 0 = .ok (.aload_n 0, 1) := by decide +kernel
theorem dX3_march_1 : decode cX3_march 1 = .ok (.invokevirtual 106, 3) := by decide +kernel
theorem dX3_march_4 : decode cX3_march 4 = .ok (.aload_n 0, 1) := by decide +kernel
theorem dX3_march_5 : decode cX3_march 5 = .ok (.aload_n 0, 1) := by decide +kernel
theorem dX3_march_6 : decode cX3_march 6 = .ok (.iload_n 1, 1) := by decide +kernel
theorem dX3_march_7 : decode cX3_march 7 = .ok (.invokevirtual 130, 3) := by decide +kernel
theorem dX3_march_10 : decode cX3_march 10 = .ok (.invokevirtual 112, 3) := by decide +kernel
theorem dX3_march_13 : decode cX3_march 13 = .ok (.ireturn, 1) := by decide +kernel
theorem dX3_openRoads_0 : decode cX3_openRoads 0 = .ok (.bipush 10, 2) := by decide +kernel
theorem dX3_openRoads_2 : decode cX3_openRoads 2 = .ok (.istore_n 1, 1) := by decide +kernel
theorem dX3_openRoads_3 : decode cX3_openRoads 3 = .ok (.iconst 0, 1) := by decide +kernel
theorem dX3_openRoads_4 : decode cX3_openRoads 4 = .ok (.istore_n 2, 1) := by decide +kernel
theorem dX3_openRoads_5 : decode cX3_openRoads 5 = .ok (.iload_n 2, 1) := by decide +kernel
theorem dX3_openRoads_6 : decode cX3_openRoads 6 = .ok (.bipush 25, 2) := by decide +kernel
theorem dX3_openRoads_8 : decode cX3_openRoads 8 = .ok (.if_icmp .ge 21, 3) := by decide +kernel
theorem dX3_openRoads_11 : decode cX3_openRoads 11 = .ok (.iload_n 1, 1) := by decide +kernel
theorem dX3_openRoads_12 : decode cX3_openRoads 12 = .ok (.aload_n 0, 1) := by decide +kernel
theorem dX3_openRoads_13 : decode cX3_openRoads 13 = .ok (.getfield 9, 3) := by decide +kernel
theorem dX3_openRoads_16 : decode cX3_openRoads 16 = .ok (.bipush 6, 2) := by decide +kernel
theorem dX3_openRoads_18 : decode cX3_openRoads 18 = .ok (.iload_n 2, 1) := by decide +kernel
theorem dX3_openRoads_19 : decode cX3_openRoads 19 = .ok (.iadd, 1) := by decide +kernel
theorem dX3_openRoads_20 : decode cX3_openRoads 20 = .ok (.iaload, 1) := by decide +kernel
theorem dX3_openRoads_21 : decode cX3_openRoads 21 = .ok (.isub, 1) := by decide +kernel
theorem dX3_openRoads_22 : decode cX3_openRoads 22 = .ok (.istore_n 1, 1) := by decide +kernel
theorem dX3_openRoads_23 : decode cX3_openRoads 23 = .ok (.iinc 2 1, 3) := by decide +kernel
theorem dX3_openRoads_26 : decode cX3_openRoads 26 = .ok (.goto (-21), 3) := by decide +kernel
theorem dX3_openRoads_29 : decode cX3_openRoads 29 = .ok (.iload_n 1, 1) := by decide +kernel
theorem dX3_openRoads_30 : decode cX3_openRoads 30 = .ok (.ireturn, 1) := by decide +kernel
set_option maxRecDepth 20000 in
theorem ggX3_opens_X3_isCamp : GoodIn wsX3_opens wsX3_isCamp := goodIn_r _ [5, 6, 7, 4, 8] (by decide +kernel) (by decide +kernel)
set_option maxRecDepth 20000 in
theorem gX3_opens_X3_isCamp : GoodIn wsX3_opens (va_wsS RX3 97 yX3_isCamp wsX3_isCamp) := goodIn_app (goodIn_of _ (by decide +kernel)) ggX3_opens_X3_isCamp
set_option maxRecDepth 20000 in
theorem ggX3_opens_X3_in : GoodIn wsX3_opens wsX3_in := goodIn_r _ [8] (by decide +kernel) (by decide +kernel)
set_option maxRecDepth 20000 in
theorem gX3_opens_X3_in : GoodIn wsX3_opens (va_wsS RX3 48 yX3_in wsX3_in) := goodIn_app (goodIn_of _ (by decide +kernel)) ggX3_opens_X3_in
set_option maxRecDepth 20000 in
theorem ggX3_opens_X3_refuses : GoodIn wsX3_opens wsX3_refuses := goodIn_r _ [12, 13, 14, 15, 30, 31, 32, 33, 34, 35, 36, 37, 38, 39, 40, 41, 42, 43, 44, 45, 46] (by decide +kernel) (by decide +kernel)
set_option maxRecDepth 20000 in
theorem gX3_opens_X3_refuses : GoodIn wsX3_opens (wsV RX3 100 RX3 yX3_refuses wsX3_refuses) := goodIn_app (goodIn_of _ (by decide +kernel)) ggX3_opens_X3_refuses
set_option maxRecDepth 20000 in
theorem ggX3_opens_X3_road : GoodIn wsX3_opens wsX3_road := goodIn_r _ [18, 19, 20, 21, 22, 23, 24, 25] (by decide +kernel) (by decide +kernel)
set_option maxRecDepth 20000 in
theorem gX3_opens_X3_road : GoodIn wsX3_opens (va_wsS RX3 68 yX3_road wsX3_road) := goodIn_app (goodIn_of _ (by decide +kernel)) ggX3_opens_X3_road
set_option maxRecDepth 20000 in
theorem ggX3_opens_X3_openRoads : GoodIn wsX3_opens wsX3_openRoads := goodIn_r _ [29, 1, 30, 31, 32, 33, 34, 35, 36, 37, 38, 39, 40, 41, 42, 43, 44, 45, 46] (by decide +kernel) (by decide +kernel)
set_option maxRecDepth 20000 in
theorem gX3_opens_X3_openRoads : GoodIn wsX3_opens (wsV RX3 133 RX3 yX3_openRoads wsX3_openRoads) := goodIn_app (goodIn_of _ (by decide +kernel)) ggX3_opens_X3_openRoads
theorem dX3_opens_0 : decode cX3_opens 0 = .ok (.iload_n 1, 1) := by decide +kernel
theorem dX3_opens_1 : decode cX3_opens 1 = .ok (.invokestatic 97, 3) := by decide +kernel
theorem dX3_opens_4 : decode cX3_opens 4 = .ok (.ifCond .eq 10, 3) := by decide +kernel
theorem dX3_opens_7 : decode cX3_opens 7 = .ok (.iload_n 2, 1) := by decide +kernel
theorem dX3_opens_8 : decode cX3_opens 8 = .ok (.invokestatic 97, 3) := by decide +kernel
theorem dX3_opens_11 : decode cX3_opens 11 = .ok (.ifCond .ne 5, 3) := by decide +kernel
theorem dX3_opens_14 : decode cX3_opens 14 = .ok (.iconst (-1), 1) := by decide +kernel
theorem dX3_opens_15 : decode cX3_opens 15 = .ok (.ireturn, 1) := by decide +kernel
theorem dX3_opens_16 : decode cX3_opens 16 = .ok (.iload_n 3, 1) := by decide +kernel
theorem dX3_opens_17 : decode cX3_opens 17 = .ok (.iconst 0, 1) := by decide +kernel
theorem dX3_opens_18 : decode cX3_opens 18 = .ok (.iconst 1, 1) := by decide +kernel
theorem dX3_opens_19 : decode cX3_opens 19 = .ok (.invokestatic 48, 3) := by decide +kernel
theorem dX3_opens_22 : decode cX3_opens 22 = .ok (.ifCond .ne 6, 3) := by decide +kernel
theorem dX3_opens_25 : decode cX3_opens 25 = .ok (.bipush (-2), 2) := by decide +kernel
theorem dX3_opens_27 : decode cX3_opens 27 = .ok (.ireturn, 1) := by decide +kernel
theorem dX3_opens_28 : decode cX3_opens 28 = .ok (.iload_n 1, 1) := by decide +kernel
theorem dX3_opens_29 : decode cX3_opens 29 = .ok (.iload_n 2, 1) := by decide +kernel
theorem dX3_opens_30 : decode cX3_opens 30 = .ok (.if_icmp .ne 10, 3) := by decide +kernel
theorem dX3_opens_33 : decode cX3_opens 33 = .ok (.aload_n 0, 1) := by decide +kernel
theorem dX3_opens_34 : decode cX3_opens 34 = .ok (.iconst 4, 1) := by decide +kernel
theorem dX3_opens_35 : decode cX3_opens 35 = .ok (.iload_n 1, 1) := by decide +kernel
theorem dX3_opens_36 : decode cX3_opens 36 = .ok (.invokevirtual 100, 3) := by decide +kernel
theorem dX3_opens_39 : decode cX3_opens 39 = .ok (.ireturn, 1) := by decide +kernel
theorem dX3_opens_40 : decode cX3_opens 40 = .ok (.aload_n 0, 1) := by decide +kernel
theorem dX3_opens_41 : decode cX3_opens 41 = .ok (.getfield 9, 3) := by decide +kernel
theorem dX3_opens_44 : decode cX3_opens 44 = .ok (.iload_n 1, 1) := by decide +kernel
theorem dX3_opens_45 : decode cX3_opens 45 = .ok (.iload_n 2, 1) := by decide +kernel
theorem dX3_opens_46 : decode cX3_opens 46 = .ok (.invokestatic 68, 3) := by decide +kernel
theorem dX3_opens_49 : decode cX3_opens 49 = .ok (.iaload, 1) := by decide +kernel
theorem dX3_opens_50 : decode cX3_opens 50 = .ok (.iconst 1, 1) := by decide +kernel
theorem dX3_opens_51 : decode cX3_opens 51 = .ok (.iload_n 3, 1) := by decide +kernel
theorem dX3_opens_52 : decode cX3_opens 52 = .ok (.isub, 1) := by decide +kernel
theorem dX3_opens_53 : decode cX3_opens 53 = .ok (.if_icmp .ne 10, 3) := by decide +kernel
theorem dX3_opens_56 : decode cX3_opens 56 = .ok (.aload_n 0, 1) := by decide +kernel
theorem dX3_opens_57 : decode cX3_opens 57 = .ok (.iconst 5, 1) := by decide +kernel
theorem dX3_opens_58 : decode cX3_opens 58 = .ok (.iload_n 3, 1) := by decide +kernel
theorem dX3_opens_59 : decode cX3_opens 59 = .ok (.invokevirtual 100, 3) := by decide +kernel
theorem dX3_opens_62 : decode cX3_opens 62 = .ok (.ireturn, 1) := by decide +kernel
theorem dX3_opens_63 : decode cX3_opens 63 = .ok (.aload_n 0, 1) := by decide +kernel
theorem dX3_opens_64 : decode cX3_opens 64 = .ok (.getfield 9, 3) := by decide +kernel
theorem dX3_opens_67 : decode cX3_opens 67 = .ok (.iload_n 1, 1) := by decide +kernel
theorem dX3_opens_68 : decode cX3_opens 68 = .ok (.iload_n 2, 1) := by decide +kernel
theorem dX3_opens_69 : decode cX3_opens 69 = .ok (.invokestatic 68, 3) := by decide +kernel
theorem dX3_opens_72 : decode cX3_opens 72 = .ok (.iconst 1, 1) := by decide +kernel
theorem dX3_opens_73 : decode cX3_opens 73 = .ok (.iload_n 3, 1) := by decide +kernel
theorem dX3_opens_74 : decode cX3_opens 74 = .ok (.isub, 1) := by decide +kernel
theorem dX3_opens_75 : decode cX3_opens 75 = .ok (.iastore, 1) := by decide +kernel
theorem dX3_opens_76 : decode cX3_opens 76 = .ok (.aload_n 0, 1) := by decide +kernel
theorem dX3_opens_77 : decode cX3_opens 77 = .ok (.invokevirtual 133, 3) := by decide +kernel
theorem dX3_opens_80 : decode cX3_opens 80 = .ok (.ireturn, 1) := by decide +kernel
set_option maxRecDepth 20000 in
theorem ggX3_road__X3_tries : GoodIn wsX3_road_ wsX3_tries := goodIn_r _ [5, 6, 7, 45, 46, 47, 48, 49, 50, 51, 52, 53, 54, 55, 56, 57, 58, 59, 60, 61] (by decide +kernel) (by decide +kernel)
set_option maxRecDepth 20000 in
theorem gX3_road__X3_tries : GoodIn wsX3_road_ (wsV RX3 106 RX3 yX3_tries wsX3_tries) := goodIn_app (goodIn_of _ (by decide +kernel)) ggX3_road__X3_tries
set_option maxRecDepth 20000 in
theorem ggX3_road__X3_opens : GoodIn wsX3_road_ wsX3_opens := goodIn_r _ [11, 7, 12, 13, 4, 14, 15, 16, 17, 18, 19, 20, 21, 22, 23, 24, 25, 26, 27, 28, 29, 30, 31, 32, 33, 34, 35, 36, 37, 38, 45, 46, 47, 48, 49, 50, 51, 52, 53, 54, 55, 56, 57, 58, 59, 60, 61] (by decide +kernel) (by decide +kernel)
set_option maxRecDepth 20000 in
theorem gX3_road__X3_opens : GoodIn wsX3_road_ (wsV RX3 137 RX3 yX3_opens wsX3_opens) := goodIn_app (goodIn_of _ (by decide +kernel)) ggX3_road__X3_opens
set_option maxRecDepth 20000 in
theorem ggX3_road__X3_ends : GoodIn wsX3_road_ wsX3_ends := goodIn_r _ [42, 7, 6, 43, 44, 45, 46, 47, 48, 49, 50, 51, 52, 53, 54, 55, 56, 57, 58, 59, 60, 61] (by decide +kernel) (by decide +kernel)
set_option maxRecDepth 20000 in
theorem gX3_road__X3_ends : GoodIn wsX3_road_ (wsV RX3 112 RX3 yX3_ends wsX3_ends) := goodIn_app (goodIn_of _ (by decide +kernel)) ggX3_road__X3_ends
theorem dX3_road__0 : decode cX3_road_ 0 = .ok (.aload_n 0, 1) := by decide +kernel
theorem dX3_road__1 : decode cX3_road_ 1 = .ok (.invokevirtual 106, 3) := by decide +kernel
theorem dX3_road__4 : decode cX3_road_ 4 = .ok (.aload_n 0, 1) := by decide +kernel
theorem dX3_road__5 : decode cX3_road_ 5 = .ok (.aload_n 0, 1) := by decide +kernel
theorem dX3_road__6 : decode cX3_road_ 6 = .ok (.iload_n 1, 1) := by decide +kernel
theorem dX3_road__7 : decode cX3_road_ 7 = .ok (.iload_n 2, 1) := by decide +kernel
theorem dX3_road__8 : decode cX3_road_ 8 = .ok (.iload_n 3, 1) := by decide +kernel
theorem dX3_road__9 : decode cX3_road_ 9 = .ok (.invokevirtual 137, 3) := by decide +kernel
theorem dX3_road__12 : decode cX3_road_ 12 = .ok (.invokevirtual 112, 3) := by decide +kernel
theorem dX3_road__15 : decode cX3_road_ 15 = .ok (.ireturn, 1) := by decide +kernel
set_option maxRecDepth 20000 in
theorem ggX3_awake_X3_isAwake : GoodIn wsX3_awake wsX3_isAwake := goodIn_r _ [5, 6, 7, 8, 4, 9, 10, 11, 12, 13, 14, 15, 16, 17, 18, 19, 20, 21, 22, 23, 24, 25, 26, 27] (by decide +kernel) (by decide +kernel)
set_option maxRecDepth 20000 in
theorem gX3_awake_X3_isAwake : GoodIn wsX3_awake (wsV RX3 64 RX3 yX3_isAwake wsX3_isAwake) := goodIn_app (goodIn_of _ (by decide +kernel)) ggX3_awake_X3_isAwake
theorem dX3_awake_0 : decode cX3_awake 0 = .ok (.iconst 0, 1) := by decide +kernel
theorem dX3_awake_1 : decode cX3_awake 1 = .ok (.istore_n 1, 1) := by decide +kernel
theorem dX3_awake_2 : decode cX3_awake 2 = .ok (.iconst 0, 1) := by decide +kernel
theorem dX3_awake_3 : decode cX3_awake 3 = .ok (.istore_n 2, 1) := by decide +kernel
theorem dX3_awake_4 : decode cX3_awake 4 = .ok (.iload_n 2, 1) := by decide +kernel
theorem dX3_awake_5 : decode cX3_awake 5 = .ok (.iconst 5, 1) := by decide +kernel
theorem dX3_awake_6 : decode cX3_awake 6 = .ok (.if_icmp .ge 20, 3) := by decide +kernel
theorem dX3_awake_9 : decode cX3_awake 9 = .ok (.aload_n 0, 1) := by decide +kernel
theorem dX3_awake_10 : decode cX3_awake 10 = .ok (.iload_n 2, 1) := by decide +kernel
theorem dX3_awake_11 : decode cX3_awake 11 = .ok (.invokevirtual 64, 3) := by decide +kernel
theorem dX3_awake_14 : decode cX3_awake 14 = .ok (.ifCond .eq 6, 3) := by decide +kernel
theorem dX3_awake_17 : decode cX3_awake 17 = .ok (.iinc 1 1, 3) := by decide +kernel
theorem dX3_awake_20 : decode cX3_awake 20 = .ok (.iinc 2 1, 3) := by decide +kernel
theorem dX3_awake_23 : decode cX3_awake 23 = .ok (.goto (-19), 3) := by decide +kernel
theorem dX3_awake_26 : decode cX3_awake 26 = .ok (.iload_n 1, 1) := by decide +kernel
theorem dX3_awake_27 : decode cX3_awake 27 = .ok (.ireturn, 1) := by decide +kernel
set_option maxRecDepth 20000 in
theorem ggX3_sleeps_X3_isCamp : GoodIn wsX3_sleeps wsX3_isCamp := goodIn_r _ [4, 5, 6, 3, 7] (by decide +kernel) (by decide +kernel)
set_option maxRecDepth 20000 in
theorem gX3_sleeps_X3_isCamp : GoodIn wsX3_sleeps (va_wsS RX3 97 yX3_isCamp wsX3_isCamp) := goodIn_app (goodIn_of _ (by decide +kernel)) ggX3_sleeps_X3_isCamp
set_option maxRecDepth 20000 in
theorem ggX3_sleeps_X3_in : GoodIn wsX3_sleeps wsX3_in := goodIn_r _ [7] (by decide +kernel) (by decide +kernel)
set_option maxRecDepth 20000 in
theorem gX3_sleeps_X3_in : GoodIn wsX3_sleeps (va_wsS RX3 48 yX3_in wsX3_in) := goodIn_app (goodIn_of _ (by decide +kernel)) ggX3_sleeps_X3_in
set_option maxRecDepth 20000 in
theorem ggX3_sleeps_X3_of : GoodIn wsX3_sleeps wsX3_of := goodIn_r _ [11, 12, 32, 33, 34, 35, 36, 37, 38, 39, 40, 41, 42, 43, 44, 45, 46, 47, 48] (by decide +kernel) (by decide +kernel)
set_option maxRecDepth 20000 in
theorem gX3_sleeps_X3_of : GoodIn wsX3_sleeps (wsV RX3 52 RX3 yX3_of wsX3_of) := goodIn_app (goodIn_of _ (by decide +kernel)) ggX3_sleeps_X3_of
set_option maxRecDepth 20000 in
theorem ggX3_sleeps_X3_refuses : GoodIn wsX3_sleeps wsX3_refuses := goodIn_r _ [16, 17, 18, 19, 32, 33, 34, 35, 36, 37, 38, 39, 40, 41, 42, 43, 44, 45, 46, 47, 48] (by decide +kernel) (by decide +kernel)
set_option maxRecDepth 20000 in
theorem gX3_sleeps_X3_refuses : GoodIn wsX3_sleeps (wsV RX3 100 RX3 yX3_refuses wsX3_refuses) := goodIn_app (goodIn_of _ (by decide +kernel)) ggX3_sleeps_X3_refuses
set_option maxRecDepth 20000 in
theorem ggX3_sleeps_X3_sets : GoodIn wsX3_sleeps wsX3_sets := goodIn_r _ [23, 12, 32, 33, 34, 35, 36, 37, 38, 39, 40, 41, 42, 43, 44, 45, 46, 47, 48] (by decide +kernel) (by decide +kernel)
set_option maxRecDepth 20000 in
theorem gX3_sleeps_X3_sets : GoodIn wsX3_sleeps (wsV RX3 82 RX3 yX3_sets wsX3_sets) := goodIn_app (goodIn_of _ (by decide +kernel)) ggX3_sleeps_X3_sets
set_option maxRecDepth 20000 in
theorem ggX3_sleeps_X3_awake : GoodIn wsX3_sleeps wsX3_awake := goodIn_r _ [27, 28, 29, 30, 3, 31, 8, 9, 10, 11, 12, 32, 33, 34, 35, 36, 37, 38, 39, 40, 41, 42, 43, 44, 45, 46, 47, 48] (by decide +kernel) (by decide +kernel)
set_option maxRecDepth 20000 in
theorem gX3_sleeps_X3_awake : GoodIn wsX3_sleeps (wsV RX3 140 RX3 yX3_awake wsX3_awake) := goodIn_app (goodIn_of _ (by decide +kernel)) ggX3_sleeps_X3_awake
theorem dX3_sleeps_0 : decode cX3_sleeps 0 = .ok (.iload_n 1, 1) := by decide +kernel
theorem dX3_sleeps_1 : decode cX3_sleeps 1 = .ok (.invokestatic 97, 3) := by decide +kernel
theorem dX3_sleeps_4 : decode cX3_sleeps 4 = .ok (.ifCond .ne 5, 3) := by decide +kernel
theorem dX3_sleeps_7 : decode cX3_sleeps 7 = .ok (.iconst (-1), 1) := by decide +kernel
theorem dX3_sleeps_8 : decode cX3_sleeps 8 = .ok (.ireturn, 1) := by decide +kernel
theorem dX3_sleeps_9 : decode cX3_sleeps 9 = .ok (.iload_n 2, 1) := by decide +kernel
theorem dX3_sleeps_10 : decode cX3_sleeps 10 = .ok (.iconst 0, 1) := by decide +kernel
theorem dX3_sleeps_11 : decode cX3_sleeps 11 = .ok (.iconst 1, 1) := by decide +kernel
theorem dX3_sleeps_12 : decode cX3_sleeps 12 = .ok (.invokestatic 48, 3) := by decide +kernel
theorem dX3_sleeps_15 : decode cX3_sleeps 15 = .ok (.ifCond .ne 6, 3) := by decide +kernel
theorem dX3_sleeps_18 : decode cX3_sleeps 18 = .ok (.bipush (-2), 2) := by decide +kernel
theorem dX3_sleeps_20 : decode cX3_sleeps 20 = .ok (.ireturn, 1) := by decide +kernel
theorem dX3_sleeps_21 : decode cX3_sleeps 21 = .ok (.aload_n 0, 1) := by decide +kernel
theorem dX3_sleeps_22 : decode cX3_sleeps 22 = .ok (.iload_n 1, 1) := by decide +kernel
theorem dX3_sleeps_23 : decode cX3_sleeps 23 = .ok (.iconst 3, 1) := by decide +kernel
theorem dX3_sleeps_24 : decode cX3_sleeps 24 = .ok (.invokevirtual 52, 3) := by decide +kernel
theorem dX3_sleeps_27 : decode cX3_sleeps 27 = .ok (.iconst 1, 1) := by decide +kernel
theorem dX3_sleeps_28 : decode cX3_sleeps 28 = .ok (.iload_n 2, 1) := by decide +kernel
theorem dX3_sleeps_29 : decode cX3_sleeps 29 = .ok (.isub, 1) := by decide +kernel
theorem dX3_sleeps_30 : decode cX3_sleeps 30 = .ok (.if_icmp .ne 10, 3) := by decide +kernel
theorem dX3_sleeps_33 : decode cX3_sleeps 33 = .ok (.aload_n 0, 1) := by decide +kernel
theorem dX3_sleeps_34 : decode cX3_sleeps 34 = .ok (.iconst 5, 1) := by decide +kernel
theorem dX3_sleeps_35 : decode cX3_sleeps 35 = .ok (.iload_n 2, 1) := by decide +kernel
theorem dX3_sleeps_36 : decode cX3_sleeps 36 = .ok (.invokevirtual 100, 3) := by decide +kernel
theorem dX3_sleeps_39 : decode cX3_sleeps 39 = .ok (.ireturn, 1) := by decide +kernel
theorem dX3_sleeps_40 : decode cX3_sleeps 40 = .ok (.aload_n 0, 1) := by decide +kernel
theorem dX3_sleeps_41 : decode cX3_sleeps 41 = .ok (.iload_n 1, 1) := by decide +kernel
theorem dX3_sleeps_42 : decode cX3_sleeps 42 = .ok (.iconst 3, 1) := by decide +kernel
theorem dX3_sleeps_43 : decode cX3_sleeps 43 = .ok (.iconst 1, 1) := by decide +kernel
theorem dX3_sleeps_44 : decode cX3_sleeps 44 = .ok (.iload_n 2, 1) := by decide +kernel
