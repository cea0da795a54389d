theorem dX0_init_0 : decode cX0_init 0 = .ok (.aload_n 0, 1) := by decide +kernel
theorem dX0_init_1 : decode cX0_init 1 = .ok (.invokespecial 3, 3) := by decide +kernel
theorem dX0_init_4 : decode cX0_init 4 = .ok (.aload_n 0, 1) := by decide +kernel
theorem dX0_init_5 : decode cX0_init 5 = .ok (.iconst 5, 1) := by decide +kernel
theorem dX0_init_6 : decode cX0_init 6 = .ok (.newarray .int, 2) := by decide +kernel
theorem dX0_init_8 : decode cX0_init 8 = .ok (.putfield 9, 3) := by decide +kernel
theorem dX0_init_11 : decode cX0_init 11 = .ok (.aload_n 0, 1) := by decide +kernel
theorem dX0_init_12 : decode cX0_init 12 = .ok (.iconst 5, 1) := by decide +kernel
theorem dX0_init_13 : decode cX0_init 13 = .ok (.newarray .int, 2) := by decide +kernel
theorem dX0_init_15 : decode cX0_init 15 = .ok (.putfield 15, 3) := by decide +kernel
theorem dX0_init_18 : decode cX0_init 18 = .ok (.aload_n 0, 1) := by decide +kernel
theorem dX0_init_19 : decode cX0_init 19 = .ok (.iconst 5, 1) := by decide +kernel
theorem dX0_init_20 : decode cX0_init 20 = .ok (.newarray .int, 2) := by decide +kernel
theorem dX0_init_22 : decode cX0_init 22 = .ok (.putfield 18, 3) := by decide +kernel
theorem dX0_init_25 : decode cX0_init 25 = .ok (.aload_n 0, 1) := by decide +kernel
theorem dX0_init_26 : decode cX0_init 26 = .ok (.iconst 5, 1) := by decide +kernel
theorem dX0_init_27 : decode cX0_init 27 = .ok (.newarray .int, 2) := by decide +kernel
theorem dX0_init_29 : decode cX0_init 29 = .ok (.putfield 21, 3) := by decide +kernel
theorem dX0_init_32 : decode cX0_init 32 = .ok (.aload_n 0, 1) := by decide +kernel
theorem dX0_init_33 : decode cX0_init 33 = .ok (.iconst 5, 1) := by decide +kernel
theorem dX0_init_34 : decode cX0_init 34 = .ok (.newarray .int, 2) := by decide +kernel
theorem dX0_init_36 : decode cX0_init 36 = .ok (.putfield 24, 3) := by decide +kernel
theorem dX0_init_39 : decode cX0_init 39 = .ok (.aload_n 0, 1) := by decide +kernel
theorem dX0_init_40 : decode cX0_init 40 = .ok (.iconst 5, 1) := by decide +kernel
theorem dX0_init_41 : decode cX0_init 41 = .ok (.newarray .int, 2) := by decide +kernel
theorem dX0_init_43 : decode cX0_init 43 = .ok (.putfield 27, 3) := by decide +kernel
theorem dX0_init_46 : decode cX0_init 46 = .ok (.aload_n 0, 1) := by decide +kernel
theorem dX0_init_47 : decode cX0_init 47 = .ok (.iconst 5, 1) := by decide +kernel
theorem dX0_init_48 : decode cX0_init 48 = .ok (.newarray .int, 2) := by decide +kernel
theorem dX0_init_50 : decode cX0_init 50 = .ok (.putfield 30, 3) := by decide +kernel
theorem dX0_init_53 : decode cX0_init 53 = .ok (.aload_n 0, 1) := by decide +kernel
theorem dX0_init_54 : decode cX0_init 54 = .ok (.bipush 60, 2) := by decide +kernel
theorem dX0_init_56 : decode cX0_init 56 = .ok (.newarray .int, 2) := by decide +kernel
theorem dX0_init_58 : decode cX0_init 58 = .ok (.putfield 33, 3) := by decide +kernel
theorem dX0_init_61 : decode cX0_init 61 = .ok (.aload_n 0, 1) := by decide +kernel
theorem dX0_init_62 : decode cX0_init 62 = .ok (.bipush 60, 2) := by decide +kernel
theorem dX0_init_64 : decode cX0_init 64 = .ok (.newarray .int, 2) := by decide +kernel
theorem dX0_init_66 : decode cX0_init 66 = .ok (.putfield 36, 3) := by decide +kernel
theorem dX0_init_69 : decode cX0_init 69 = .ok (.aload_n 0, 1) := by decide +kernel
theorem dX0_init_70 : decode cX0_init 70 = .ok (.bipush 25, 2) := by decide +kernel
theorem dX0_init_72 : decode cX0_init 72 = .ok (.newarray .int, 2) := by decide +kernel
theorem dX0_init_74 : decode cX0_init 74 = .ok (.putfield 39, 3) := by decide +kernel
theorem dX0_init_77 : decode cX0_init 77 = .ok (.aload_n 0, 1) := by decide +kernel
theorem dX0_init_78 : decode cX0_init 78 = .ok (.iconst 0, 1) := by decide +kernel
theorem dX0_init_79 : decode cX0_init 79 = .ok (.putfield 42, 3) := by decide +kernel
theorem dX0_init_82 : decode cX0_init 82 = .ok (.aload_n 0, 1) := by decide +kernel
theorem dX0_init_83 : decode cX0_init 83 = .ok (.iconst 0, 1) := by decide +kernel
theorem dX0_init_84 : decode cX0_init 84 = .ok (.putfield 46, 3) := by decide +kernel
theorem dX0_init_87 : decode cX0_init 87 = .ok (.aload_n 0, 1) := by decide +kernel
theorem dX0_init_88 : decode cX0_init 88 = .ok (.iconst 0, 1) := by decide +kernel
theorem dX0_init_89 : decode cX0_init 89 = .ok (.putfield 49, 3) := by decide +kernel
theorem dX0_init_92 : decode cX0_init 92 = .ok (.aload_n 0, 1) := by decide +kernel
theorem dX0_init_93 : decode cX0_init 93 = .ok (.iconst 0, 1) := by decide +kernel
theorem dX0_init_94 : decode cX0_init 94 = .ok (.putfield 52, 3) := by decide +kernel
theorem dX0_init_97 : decode cX0_init 97 = .ok (.aload_n 0, 1) := by decide +kernel
theorem dX0_init_98 : decode cX0_init 98 = .ok (.iconst 0, 1) := by decide +kernel
theorem dX0_init_99 : decode cX0_init 99 = .ok (.putfield 55, 3) := by decide +kernel
theorem dX0_init_102 : decode cX0_init 102 = .ok (.aload_n 0, 1) := by decide +kernel
theorem dX0_init_103 : decode cX0_init 103 = .ok (.iconst 0, 1) := by decide +kernel
theorem dX0_init_104 : decode cX0_init 104 = .ok (.putfield 58, 3) := by decide +kernel
theorem dX0_init_107 : decode cX0_init 107 = .ok (.iconst 0, 1) := by decide +kernel
theorem dX0_init_108 : decode cX0_init 108 = .ok (.istore_n 1, 1) := by decide +kernel
theorem dX0_init_109 : decode cX0_init 109 = .ok (.iload_n 1, 1) := by decide +kernel
theorem dX0_init_110 : decode cX0_init 110 = .ok (.iconst 5, 1) := by decide +kernel
theorem dX0_init_111 : decode cX0_init 111 = .ok (.if_icmp .ge 57, 3) := by decide +kernel
theorem dX0_init_114 : decode cX0_init 114 = .ok (.aload_n 0, 1) := by decide +kernel
theorem dX0_init_115 : decode cX0_init 115 = .ok (.getfield 15, 3) := by decide +kernel
theorem dX0_init_118 : decode cX0_init 118 = .ok (.iload_n 1, 1) := by decide +kernel
theorem dX0_init_119 : decode cX0_init 119 = .ok (.bipush (-4), 2) := by decide +kernel
theorem dX0_init_121 : decode cX0_init 121 = .ok (.iastore, 1) := by decide +kernel
theorem dX0_init_122 : decode cX0_init 122 = .ok (.aload_n 0, 1) := by decide +kernel
theorem dX0_init_123 : decode cX0_init 123 = .ok (.getfield 21, 3) := by decide +kernel
theorem dX0_init_126 : decode cX0_init 126 = .ok (.iload_n 1, 1) := by decide +kernel
theorem dX0_init_127 : decode cX0_init 127 = .ok (.iconst 1, 1) := by decide +kernel
theorem dX0_init_128 : decode cX0_init 128 = .ok (.iastore, 1) := by decide +kernel
theorem dX0_init_129 : decode cX0_init 129 = .ok (.iconst 0, 1) := by decide +kernel
theorem dX0_init_130 : decode cX0_init 130 = .ok (.istore_n 2, 1) := by decide +kernel
theorem dX0_init_131 : decode cX0_init 131 = .ok (.iload_n 2, 1) := by decide +kernel
theorem dX0_init_132 : decode cX0_init 132 = .ok (.iconst 5, 1) := by decide +kernel
theorem dX0_init_133 : decode cX0_init 133 = .ok (.if_icmp .ge 29, 3) := by decide +kernel
theorem dX0_init_136 : decode cX0_init 136 = .ok (.aload_n 0, 1) := by decide +kernel
theorem dX0_init_137 : decode cX0_init 137 = .ok (.getfield 39, 3) := by decide +kernel
theorem dX0_init_140 : decode cX0_init 140 = .ok (.iload_n 1, 1) := by decide +kernel
theorem dX0_init_141 : decode cX0_init 141 = .ok (.iconst 5, 1) := by decide +kernel
theorem dX0_init_142 : decode cX0_init 142 = .ok (.imul, 1) := by decide +kernel
theorem dX0_init_143 : decode cX0_init 143 = .ok (.iload_n 2, 1) := by decide +kernel
theorem dX0_init_144 : decode cX0_init 144 = .ok (.iadd, 1) := by decide +kernel
theorem dX0_init_145 : decode cX0_init 145 = .ok (.iload_n 1, 1) := by decide +kernel
theorem dX0_init_146 : decode cX0_init 146 = .ok (.iload_n 2, 1) := by decide +kernel
theorem dX0_init_147 : decode cX0_init 147 = .ok (.if_icmp .ne 7, 3) := by decide +kernel
theorem dX0_init_150 : decode cX0_init 150 = .ok (.iconst 0, 1) := by decide +kernel
theorem dX0_init_151 : decode cX0_init 151 = .ok (.goto 4, 3) := by decide +kernel
theorem dX0_init_154 : decode cX0_init 154 = .ok (.iconst 1, 1) := by decide +kernel
theorem dX0_init_155 : decode cX0_init 155 = .ok (.iastore, 1) := by decide +kernel
theorem dX0_init_156 : decode cX0_init 156 = .ok (.iinc 2 1, 3) := by decide +kernel
theorem dX0_init_159 : decode cX0_init 159 = .ok (.goto (-28), 3) := by decide +kernel
theorem dX0_init_162 : decode cX0_init 162 = .ok (.iinc 1 1, 3) := by decide +kernel
theorem dX0_init_165 : decode cX0_init 165 = .ok (.goto (-56), 3) := by decide +kernel
theorem dX0_init_168 : decode cX0_init 168 = .ok (.return_, 1) := by decide +kernel
theorem dX0_copyFrom_0 : decode cX0_copyFrom 0 = .ok (.aload_n 1, 1) := by decide +kernel
theorem dX0_copyFrom_1 : decode cX0_copyFrom 1 = .ok (.getfield 9, 3) := by decide +kernel
theorem dX0_copyFrom_4 : decode cX0_copyFrom 4 = .ok (.iconst 0, 1) := by decide +kernel
theorem dX0_copyFrom_5 : decode cX0_copyFrom 5 = .ok (.aload_n 0, 1) := by decide +kernel
theorem dX0_copyFrom_6 : decode cX0_copyFrom 6 = .ok (.getfield 9, 3) := by decide +kernel
theorem dX0_copyFrom_9 : decode cX0_copyFrom 9 = .ok (.iconst 0, 1) := by decide +kernel
theorem dX0_copyFrom_10 : decode cX0_copyFrom 10 = .ok (.iconst 5, 1) := by decide +kernel
theorem dX0_copyFrom_11 : decode cX0_copyFrom 11 = .ok (.invokestatic 61, 3) := by decide +kernel
theorem dX0_copyFrom_14 : decode cX0_copyFrom 14 = .ok (.aload_n 1, 1) := by decide +kernel
theorem dX0_copyFrom_15 : decode cX0_copyFrom 15 = .ok (.getfield 15, 3) := by decide +kernel
theorem dX0_copyFrom_18 : decode cX0_copyFrom 18 = .ok (.iconst 0, 1) := by decide +kernel
theorem dX0_copyFrom_19 : decode cX0_copyFrom 19 = .ok (.aload_n 0, 1) := by decide +kernel
theorem dX0_copyFrom_20 : decode cX0_copyFrom 20 = .ok (.getfield 15, 3) := by decide +kernel
theorem dX0_copyFrom_23 : decode cX0_copyFrom 23 = .ok (.iconst 0, 1) := by decide +kernel
theorem dX0_copyFrom_24 : decode cX0_copyFrom 24 = .ok (.iconst 5, 1) := by decide +kernel
theorem dX0_copyFrom_25 : decode cX0_copyFrom 25 = .ok (.invokestatic 61, 3) := by decide +kernel
theorem dX0_copyFrom_28 : decode cX0_copyFrom 28 = .ok (.aload_n 1, 1) := by decide +kernel
theorem dX0_copyFrom_29 : decode cX0_copyFrom 29 = .ok (.getfield 18, 3) := by decide +kernel
theorem dX0_copyFrom_32 : decode cX0_copyFrom 32 = .ok (.iconst 0, 1) := by decide +kernel
theorem dX0_copyFrom_33 : decode cX0_copyFrom 33 = .ok (.aload_n 0, 1) := by decide +kernel
theorem dX0_copyFrom_34 : decode cX0_copyFrom 34 = .ok (.getfield 18, 3) := by decide +kernel
theorem dX0_copyFrom_37 : decode cX0_copyFrom 37 = .ok (.iconst 0, 1) := by decide +kernel
theorem dX0_copyFrom_38 : decode cX0_copyFrom 38 = .ok (.iconst 5, 1) := by decide +kernel
theorem dX0_copyFrom_39 : decode cX0_copyFrom 39 = .ok (.invokestatic 61, 3) := by decide +kernel
theorem dX0_copyFrom_42 : decode cX0_copyFrom 42 = .ok (.aload_n 1, 1) := by decide +kernel
theorem dX0_copyFrom_43 : decode cX0_copyFrom 43 = .ok (.getfield 21, 3) := by decide +kernel
theorem dX0_copyFrom_46 : decode cX0_copyFrom 46 = .ok (.iconst 0, 1) := by decide +kernel
theorem dX0_copyFrom_47 : decode cX0_copyFrom 47 = .ok (.aload_n 0, 1) := by decide +kernel
theorem dX0_copyFrom_48 : decode cX0_copyFrom 48 = .ok (.getfield 21, 3) := by decide +kernel
theorem dX0_copyFrom_51 : decode cX0_copyFrom 51 = .ok (.iconst 0, 1) := by decide +kernel
theorem dX0_copyFrom_52 : decode cX0_copyFrom 52 = .ok (.iconst 5, 1) := by decide +kernel
theorem dX0_copyFrom_53 : decode cX0_copyFrom 53 = .ok (.invokestatic 61, 3) := by decide +kernel
theorem dX0_copyFrom_56 : decode cX0_copyFrom 56 = .ok (.aload_n 1, 1) := by decide +kernel
theorem dX0_copyFrom_57 : decode cX0_copyFrom 57 = .ok (.getfield 24, 3) := by decide +kernel
theorem dX0_copyFrom_60 : decode cX0_copyFrom 60 = .ok (.iconst 0, 1) := by decide +kernel
theorem dX0_copyFrom_61 : decode cX0_copyFrom 61 = .ok (.aload_n 0, 1) := by decide +kernel
theorem dX0_copyFrom_62 : decode cX0_copyFrom 62 = .ok (.getfield 24, 3) := by decide +kernel
theorem dX0_copyFrom_65 : decode cX0_copyFrom 65 = .ok (.iconst 0, 1) := by decide +kernel
theorem dX0_copyFrom_66 : decode cX0_copyFrom 66 = .ok (.iconst 5, 1) := by decide +kernel
theorem dX0_copyFrom_67 : decode cX0_copyFrom 67 = .ok (.invokestatic 61, 3) := by decide +kernel
theorem dX0_copyFrom_70 : decode cX0_copyFrom 70 = .ok (.aload_n 1, 1) := by decide +kernel
theorem dX0_copyFrom_71 : decode cX0_copyFrom 71 = .ok (.getfield 27, 3) := by decide +kernel
theorem dX0_copyFrom_74 : decode cX0_copyFrom 74 = .ok (.iconst 0, 1) := by decide +kernel
theorem dX0_copyFrom_75 : decode cX0_copyFrom 75 = .ok (.aload_n 0, 1) := by decide +kernel
theorem dX0_copyFrom_76 : decode cX0_copyFrom 76 = .ok (.getfield 27, 3) := by decide +kernel
theorem dX0_copyFrom_79 : decode cX0_copyFrom 79 = .ok (.iconst 0, 1) := by decide +kernel
theorem dX0_copyFrom_80 : decode cX0_copyFrom 80 = .ok (.iconst 5, 1) := by decide +kernel
theorem dX0_copyFrom_81 : decode cX0_copyFrom 81 = .ok (.invokestatic 61, 3) := by decide +kernel
theorem dX0_copyFrom_84 : decode cX0_copyFrom 84 = .ok (.aload_n 1, 1) := by decide +kernel
theorem dX0_copyFrom_85 : decode cX0_copyFrom 85 = .ok (.getfield 30, 3) := by decide +kernel
theorem dX0_copyFrom_88 : decode cX0_copyFrom 88 = .ok (.iconst 0, 1) := by decide +kernel
theorem dX0_copyFrom_89 : decode cX0_copyFrom 89 = .ok (.aload_n 0, 1) := by decide +kernel
theorem dX0_copyFrom_90 : decode cX0_copyFrom 90 = .ok (.getfield 30, 3) := by decide +kernel
theorem dX0_copyFrom_93 : decode cX0_copyFrom 93 = .ok (.iconst 0, 1) := by decide +kernel
theorem dX0_copyFrom_94 : decode cX0_copyFrom 94 = .ok (.iconst 5, 1) := by decide +kernel
theorem dX0_copyFrom_95 : decode cX0_copyFrom 95 = .ok (.invokestatic 61, 3) := by decide +kernel
theorem dX0_copyFrom_98 : decode cX0_copyFrom 98 = .ok (.aload_n 1, 1) := by decide +kernel
theorem dX0_copyFrom_99 : decode cX0_copyFrom 99 = .ok (.getfield 33, 3) := by decide +kernel
theorem dX0_copyFrom_102 : decode cX0_copyFrom 102 = .ok (.iconst 0, 1) := by decide +kernel
theorem dX0_copyFrom_103 : decode cX0_copyFrom 103 = .ok (.aload_n 0, 1) := by decide +kernel
theorem dX0_copyFrom_104 : decode cX0_copyFrom 104 = .ok (.getfield 33, 3) := by decide +kernel
theorem dX0_copyFrom_107 : decode cX0_copyFrom 107 = .ok (.iconst 0, 1) := by decide +kernel
theorem dX0_copyFrom_108 : decode cX0_copyFrom 108 = .ok (.bipush 60, 2) := by decide +kernel
theorem dX0_copyFrom_110 : decode cX0_copyFrom 110 = .ok (.invokestatic 61, 3) := by decide +kernel
theorem dX0_copyFrom_113 : decode cX0_copyFrom 113 = .ok (.aload_n 1, 1) := by decide +kernel
theorem dX0_copyFrom_114 : decode cX0_copyFrom 114 = .ok (.getfield 36, 3) := by decide +kernel
theorem dX0_copyFrom_117 : decode cX0_copyFrom 117 = .ok (.iconst 0, 1) := by decide +kernel
theorem dX0_copyFrom_118 : decode cX0_copyFrom 118 = .ok (.aload_n 0, 1) := by decide +kernel
theorem dX0_copyFrom_119 : decode cX0_copyFrom 119 = .ok (.getfield 36, 3) := by decide +kernel
theorem dX0_copyFrom_122 : decode cX0_copyFrom 122 = .ok (.iconst 0, 1) := by decide +kernel
theorem dX0_copyFrom_123 : decode cX0_copyFrom 123 = .ok (.bipush 60, 2) := by decide +kernel
theorem dX0_copyFrom_125 : decode cX0_copyFrom 125 = .ok (.invokestatic 61, 3) := by decide +kernel
theorem dX0_copyFrom_128 : decode cX0_copyFrom 128 = .ok (.aload_n 1, 1) := by decide +kernel
theorem dX0_copyFrom_129 : decode cX0_copyFrom 129 = .ok (.getfield 39, 3) := by decide +kernel
theorem dX0_copyFrom_132 : decode cX0_copyFrom 132 = .ok (.iconst 0, 1) := by decide +kernel
theorem dX0_copyFrom_133 : decode cX0_copyFrom 133 = .ok (.aload_n 0, 1) := by decide +kernel
theorem dX0_copyFrom_134 : decode cX0_copyFrom 134 = .ok (.getfield 39, 3) := by decide +kernel
theorem dX0_copyFrom_137 : decode cX0_copyFrom 137 = .ok (.iconst 0, 1) := by decide +kernel
theorem dX0_copyFrom_138 : decode cX0_copyFrom 138 = .ok (.bipush 25, 2) := by decide +kernel
theorem dX0_copyFrom_140 : decode cX0_copyFrom 140 = .ok (.invokestatic 61, 3) := by decide +kernel
theorem dX0_copyFrom_143 : decode cX0_copyFrom 143 = .ok (.aload_n 0, 1) := by decide +kernel
theorem dX0_copyFrom_144 : decode cX0_copyFrom 144 = .ok (.aload_n 1, 1) := by decide +kernel
theorem dX0_copyFrom_145 : decode cX0_copyFrom 145 = .ok (.getfield 42, 3) := by decide +kernel
theorem dX0_copyFrom_148 : decode cX0_copyFrom 148 = .ok (.putfield 42, 3) := by decide +kernel
theorem dX0_copyFrom_151 : decode cX0_copyFrom 151 = .ok (.aload_n 0, 1) := by decide +kernel
theorem dX0_copyFrom_152 : decode cX0_copyFrom 152 = .ok (.aload_n 1, 1) := by decide +kernel
theorem dX0_copyFrom_153 : decode cX0_copyFrom 153 = .ok (.getfield 46, 3) := by decide +kernel
theorem dX0_copyFrom_156 : decode cX0_copyFrom 156 = .ok (.putfield 46, 3) := by decide +kernel
theorem dX0_copyFrom_159 : decode cX0_copyFrom 159 = .ok (.aload_n 0, 1) := by decide +kernel
theorem dX0_copyFrom_160 : decode cX0_copyFrom 160 = .ok (.aload_n 1, 1) := by decide +kernel
theorem dX0_copyFrom_161 : decode cX0_copyFrom 161 = .ok (.getfield 49, 3) := by decide +kernel
theorem dX0_copyFrom_164 : decode cX0_copyFrom 164 = .ok (.putfield 49, 3) := by decide +kernel
theorem dX0_copyFrom_167 : decode cX0_copyFrom 167 = .ok (.aload_n 0, 1) := by decide +kernel
theorem dX0_copyFrom_168 : decode cX0_copyFrom 168 = .ok (.aload_n 1, 1) := by decide +kernel
theorem dX0_copyFrom_169 : decode cX0_copyFrom 169 = .ok (.getfield 52, 3) := by decide +kernel
theorem dX0_copyFrom_172 : decode cX0_copyFrom 172 = .ok (.putfield 52, 3) := by decide +kernel
theorem dX0_copyFrom_175 : decode cX0_copyFrom 175 = .ok (.aload_n 0, 1) := by decide +kernel
theorem dX0_copyFrom_176 : decode cX0_copyFrom 176 = .ok (.aload_n 1, 1) := by decide +kernel
theorem dX0_copyFrom_177 : decode cX0_copyFrom 177 = .ok (.getfield 55, 3) := by decide +kernel
theorem dX0_copyFrom_180 : decode cX0_copyFrom 180 = .ok (.putfield 55, 3) := by decide +kernel
theorem dX0_copyFrom_183 : decode cX0_copyFrom 183 = .ok (.aload_n 0, 1) := by decide +kernel
theorem dX0_copyFrom_184 : decode cX0_copyFrom 184 = .ok (.aload_n 1, 1) := by decide +kernel
theorem dX0_copyFrom_185 : decode cX0_copyFrom 185 = .ok (.getfield 58, 3) := by decide +kernel
theorem dX0_copyFrom_188 : decode cX0_copyFrom 188 = .ok (.putfield 58, 3) := by decide +kernel
theorem dX0_copyFrom_191 : decode cX0_copyFrom 191 = .ok (.return_, 1) := by decide +kernel
set_option maxRecDepth 20000 in
theorem ggX0_askForVotes_X0_isReached : GoodIn wsX0_askForVotes wsX0_isReached := goodIn_r _ [11, 12, 13, 28, 29, 30, 31, 32, 33, 34, 35, 36, 37, 38, 39, 40, 41, 42, 43] (by decide +kernel) (by decide +kernel)
set_option maxRecDepth 20000 in
theorem gX0_askForVotes_X0_isReached : GoodIn wsX0_askForVotes (wsV RX0 67 RX0 yX0_isReached wsX0_isReached) := goodIn_app (goodIn_of _ (by decide +kernel)) ggX0_askForVotes_X0_isReached
set_option maxRecDepth 20000 in
theorem ggX0_askForVotes_X0_takeTerm : GoodIn wsX0_askForVotes wsX0_takeTerm := goodIn_r _ [17, 2, 3, 5, 28, 29, 30, 31, 32, 33, 34, 35, 36, 37, 38, 39, 40, 41, 42, 43] (by decide +kernel) (by decide +kernel)
set_option maxRecDepth 20000 in
theorem gX0_askForVotes_X0_takeTerm : GoodIn wsX0_askForVotes (wsV RX0 71 RX0 yX0_takeTerm wsX0_takeTerm) := goodIn_app (goodIn_of _ (by decide +kernel)) ggX0_askForVotes_X0_takeTerm
set_option maxRecDepth 20000 in
theorem ggX0_askForVotes_X0_isAsFar : GoodIn wsX0_askForVotes wsX0_isAsFar := goodIn_r _ [21, 22, 23, 24, 25, 10, 26, 27, 28, 29, 30, 31, 32, 33, 34, 35, 36, 37, 38, 39, 40, 41, 42, 43] (by decide +kernel) (by decide +kernel)
set_option maxRecDepth 20000 in
theorem gX0_askForVotes_X0_isAsFar : GoodIn wsX0_askForVotes (wsV RX0 75 RX0 yX0_isAsFar wsX0_isAsFar) := goodIn_app (goodIn_of _ (by decide +kernel)) ggX0_askForVotes_X0_isAsFar
theorem dX0_askForVotes_0 : decode cX0_askForVotes 0 = .ok (.aload_n 0, 1) := by decide +kernel
theorem dX0_askForVotes_1 : decode cX0_askForVotes 1 = .ok (.dup, 1) := by decide +kernel
theorem dX0_askForVotes_2 : decode cX0_askForVotes 2 = .ok (.getfield 42, 3) := by decide +kernel
theorem dX0_askForVotes_5 : decode cX0_askForVotes 5 = .ok (.iconst 1, 1) := by decide +kernel
theorem dX0_askForVotes_6 : decode cX0_askForVotes 6 = .ok (.iadd, 1) := by decide +kernel
theorem dX0_askForVotes_7 : decode cX0_askForVotes 7 = .ok (.putfield 42, 3) := by decide +kernel
theorem dX0_askForVotes_10 : decode cX0_askForVotes 10 = .ok (.aload_n 0, 1) := by decide +kernel
theorem dX0_askForVotes_11 : decode cX0_askForVotes 11 = .ok (.getfield 9, 3) := by decide +kernel
theorem dX0_askForVotes_14 : decode cX0_askForVotes 14 = .ok (.iload_n 1, 1) := by decide +kernel
theorem dX0_askForVotes_15 : decode cX0_askForVotes 15 = .ok (.dup2, 1) := by decide +kernel
theorem dX0_askForVotes_16 : decode cX0_askForVotes 16 = .ok (.iaload, 1) := by decide +kernel
theorem dX0_askForVotes_17 : decode cX0_askForVotes 17 = .ok (.iconst 1, 1) := by decide +kernel
theorem dX0_askForVotes_18 : decode cX0_askForVotes 18 = .ok (.iadd, 1) := by decide +kernel
theorem dX0_askForVotes_19 : decode cX0_askForVotes 19 = .ok (.iastore, 1) := by decide +kernel
theorem dX0_askForVotes_20 : decode cX0_askForVotes 20 = .ok (.aload_n 0, 1) := by decide +kernel
theorem dX0_askForVotes_21 : decode cX0_askForVotes 21 = .ok (.getfield 15, 3) := by decide +kernel
theorem dX0_askForVotes_24 : decode cX0_askForVotes 24 = .ok (.iload_n 1, 1) := by decide +kernel
theorem dX0_askForVotes_25 : decode cX0_askForVotes 25 = .ok (.iload_n 1, 1) := by decide +kernel
theorem dX0_askForVotes_26 : decode cX0_askForVotes 26 = .ok (.iastore, 1) := by decide +kernel
theorem dX0_askForVotes_27 : decode cX0_askForVotes 27 = .ok (.aload_n 0, 1) := by decide +kernel
theorem dX0_askForVotes_28 : decode cX0_askForVotes 28 = .ok (.getfield 24, 3) := by decide +kernel
theorem dX0_askForVotes_31 : decode cX0_askForVotes 31 = .ok (.iload_n 1, 1) := by decide +kernel
theorem dX0_askForVotes_32 : decode cX0_askForVotes 32 = .ok (.iconst 0, 1) := by decide +kernel
theorem dX0_askForVotes_33 : decode cX0_askForVotes 33 = .ok (.iastore, 1) := by decide +kernel
theorem dX0_askForVotes_34 : decode cX0_askForVotes 34 = .ok (.iconst 1, 1) := by decide +kernel
theorem dX0_askForVotes_35 : decode cX0_askForVotes 35 = .ok (.istore_n 2, 1) := by decide +kernel
theorem dX0_askForVotes_36 : decode cX0_askForVotes 36 = .ok (.iconst 0, 1) := by decide +kernel
theorem dX0_askForVotes_37 : decode cX0_askForVotes 37 = .ok (.istore_n 3, 1) := by decide +kernel
theorem dX0_askForVotes_38 : decode cX0_askForVotes 38 = .ok (.iload_n 3, 1) := by decide +kernel
theorem dX0_askForVotes_39 : decode cX0_askForVotes 39 = .ok (.iconst 5, 1) := by decide +kernel
theorem dX0_askForVotes_40 : decode cX0_askForVotes 40 = .ok (.if_icmp .ge 112, 3) := by decide +kernel
theorem dX0_askForVotes_43 : decode cX0_askForVotes 43 = .ok (.aload_n 0, 1) := by decide +kernel
theorem dX0_askForVotes_44 : decode cX0_askForVotes 44 = .ok (.iload_n 1, 1) := by decide +kernel
theorem dX0_askForVotes_45 : decode cX0_askForVotes 45 = .ok (.iload_n 3, 1) := by decide +kernel
theorem dX0_askForVotes_46 : decode cX0_askForVotes 46 = .ok (.invokevirtual 67, 3) := by decide +kernel
theorem dX0_askForVotes_49 : decode cX0_askForVotes 49 = .ok (.ifCond .ne 6, 3) := by decide +kernel
theorem dX0_askForVotes_52 : decode cX0_askForVotes 52 = .ok (.goto 94, 3) := by decide +kernel
theorem dX0_askForVotes_55 : decode cX0_askForVotes 55 = .ok (.aload_n 0, 1) := by decide +kernel
theorem dX0_askForVotes_56 : decode cX0_askForVotes 56 = .ok (.getfield 9, 3) := by decide +kernel
theorem dX0_askForVotes_59 : decode cX0_askForVotes 59 = .ok (.iload_n 3, 1) := by decide +kernel
theorem dX0_askForVotes_60 : decode cX0_askForVotes 60 = .ok (.iaload, 1) := by decide +kernel
theorem dX0_askForVotes_61 : decode cX0_askForVotes 61 = .ok (.aload_n 0, 1) := by decide +kernel
theorem dX0_askForVotes_62 : decode cX0_askForVotes 62 = .ok (.getfield 9, 3) := by decide +kernel
theorem dX0_askForVotes_65 : decode cX0_askForVotes 65 = .ok (.iload_n 1, 1) := by decide +kernel
theorem dX0_askForVotes_66 : decode cX0_askForVotes 66 = .ok (.iaload, 1) := by decide +kernel
theorem dX0_askForVotes_67 : decode cX0_askForVotes 67 = .ok (.if_icmp .le 16, 3) := by decide +kernel
theorem dX0_askForVotes_70 : decode cX0_askForVotes 70 = .ok (.aload_n 0, 1) := by decide +kernel
theorem dX0_askForVotes_71 : decode cX0_askForVotes 71 = .ok (.iload_n 1, 1) := by decide +kernel
theorem dX0_askForVotes_72 : decode cX0_askForVotes 72 = .ok (.aload_n 0, 1) := by decide +kernel
theorem dX0_askForVotes_73 : decode cX0_askForVotes 73 = .ok (.getfield 9, 3) := by decide +kernel
theorem dX0_askForVotes_76 : decode cX0_askForVotes 76 = .ok (.iload_n 3, 1) := by decide +kernel
theorem dX0_askForVotes_77 : decode cX0_askForVotes 77 = .ok (.iaload, 1) := by decide +kernel
theorem dX0_askForVotes_78 : decode cX0_askForVotes 78 = .ok (.invokevirtual 71, 3) := by decide +kernel
theorem dX0_askForVotes_81 : decode cX0_askForVotes 81 = .ok (.iconst 0, 1) := by decide +kernel
theorem dX0_askForVotes_82 : decode cX0_askForVotes 82 = .ok (.ireturn, 1) := by decide +kernel
theorem dX0_askForVotes_83 : decode cX0_askForVotes 83 = .ok (.aload_n 0, 1) := by decide +kernel
theorem dX0_askForVotes_84 : decode cX0_askForVotes 84 = .ok (.getfield 9, 3) := by decide +kernel
theorem dX0_askForVotes_87 : decode cX0_askForVotes 87 = .ok (.iload_n 3, 1) := by decide +kernel
theorem dX0_askForVotes_88 : decode cX0_askForVotes 88 = .ok (.iaload, 1) := by decide +kernel
theorem dX0_askForVotes_89 : decode cX0_askForVotes 89 = .ok (.aload_n 0, 1) := by decide +kernel
theorem dX0_askForVotes_90 : decode cX0_askForVotes 90 = .ok (.getfield 9, 3) := by decide +kernel
theorem dX0_askForVotes_93 : decode cX0_askForVotes 93 = .ok (.iload_n 1, 1) := by decide +kernel
theorem dX0_askForVotes_94 : decode cX0_askForVotes 94 = .ok (.iaload, 1) := by decide +kernel
theorem dX0_askForVotes_95 : decode cX0_askForVotes 95 = .ok (.if_icmp .ge 14, 3) := by decide +kernel
theorem dX0_askForVotes_98 : decode cX0_askForVotes 98 = .ok (.aload_n 0, 1) := by decide +kernel
theorem dX0_askForVotes_99 : decode cX0_askForVotes 99 = .ok (.iload_n 3, 1) := by decide +kernel
theorem dX0_askForVotes_100 : decode cX0_askForVotes 100 = .ok (.aload_n 0, 1) := by decide +kernel
theorem dX0_askForVotes_101 : decode cX0_askForVotes 101 = .ok (.getfield 9, 3) := by decide +kernel
theorem dX0_askForVotes_104 : decode cX0_askForVotes 104 = .ok (.iload_n 1, 1) := by decide +kernel
theorem dX0_askForVotes_105 : decode cX0_askForVotes 105 = .ok (.iaload, 1) := by decide +kernel
theorem dX0_askForVotes_106 : decode cX0_askForVotes 106 = .ok (.invokevirtual 71, 3) := by decide +kernel
theorem dX0_askForVotes_109 : decode cX0_askForVotes 109 = .ok (.aload_n 0, 1) := by decide +kernel
theorem dX0_askForVotes_110 : decode cX0_askForVotes 110 = .ok (.getfield 15, 3) := by decide +kernel
theorem dX0_askForVotes_113 : decode cX0_askForVotes 113 = .ok (.iload_n 3, 1) := by decide +kernel
theorem dX0_askForVotes_114 : decode cX0_askForVotes 114 = .ok (.iaload, 1) := by decide +kernel
theorem dX0_askForVotes_115 : decode cX0_askForVotes 115 = .ok (.bipush (-4), 2) := by decide +kernel
theorem dX0_askForVotes_117 : decode cX0_askForVotes 117 = .ok (.if_icmp .ne 29, 3) := by decide +kernel
theorem dX0_askForVotes_120 : decode cX0_askForVotes 120 = .ok (.aload_n 0, 1) := by decide +kernel
theorem dX0_askForVotes_121 : decode cX0_askForVotes 121 = .ok (.iload_n 1, 1) := by decide +kernel
theorem dX0_askForVotes_122 : decode cX0_askForVotes 122 = .ok (.iload_n 3, 1) := by decide +kernel
theorem dX0_askForVotes_123 : decode cX0_askForVotes 123 = .ok (.invokevirtual 75, 3) := by decide +kernel
theorem dX0_askForVotes_126 : decode cX0_askForVotes 126 = .ok (.ifCond .eq 20, 3) := by decide +kernel
theorem dX0_askForVotes_129 : decode cX0_askForVotes 129 = .ok (.aload_n 0, 1) := by decide +kernel
theorem dX0_askForVotes_130 : decode cX0_askForVotes 130 = .ok (.getfield 15, 3) := by decide +kernel
theorem dX0_askForVotes_133 : decode cX0_askForVotes 133 = .ok (.iload_n 3, 1) := by decide +kernel
theorem dX0_askForVotes_134 : decode cX0_askForVotes 134 = .ok (.iload_n 1, 1) := by decide +kernel
theorem dX0_askForVotes_135 : decode cX0_askForVotes 135 = .ok (.iastore, 1) := by decide +kernel
theorem dX0_askForVotes_136 : decode cX0_askForVotes 136 = .ok (.aload_n 0, 1) := by decide +kernel
theorem dX0_askForVotes_137 : decode cX0_askForVotes 137 = .ok (.getfield 24, 3) := by decide +kernel
theorem dX0_askForVotes_140 : decode cX0_askForVotes 140 = .ok (.iload_n 3, 1) := by decide +kernel
theorem dX0_askForVotes_141 : decode cX0_askForVotes 141 = .ok (.iconst 0, 1) := by decide +kernel
theorem dX0_askForVotes_142 : decode cX0_askForVotes 142 = .ok (.iastore, 1) := by decide +kernel
theorem dX0_askForVotes_143 : decode cX0_askForVotes 143 = .ok (.iinc 2 1, 3) := by decide +kernel
theorem dX0_askForVotes_146 : decode cX0_askForVotes 146 = .ok (.iinc 3 1, 3) := by decide +kernel
theorem dX0_askForVotes_149 : decode cX0_askForVotes 149 = .ok (.goto (-111), 3) := by decide +kernel
theorem dX0_askForVotes_152 : decode cX0_askForVotes 152 = .ok (.iload_n 2, 1) := by decide +kernel
theorem dX0_askForVotes_153 : decode cX0_askForVotes 153 = .ok (.iconst 3, 1) := by decide +kernel
theorem dX0_askForVotes_154 : decode cX0_askForVotes 154 = .ok (.if_icmp .lt 20, 3) := by decide +kernel
theorem dX0_askForVotes_157 : decode cX0_askForVotes 157 = .ok (.aload_n 0, 1) := by decide +kernel
theorem dX0_askForVotes_158 : decode cX0_askForVotes 158 = .ok (.getfield 18, 3) := by decide +kernel
theorem dX0_askForVotes_161 : decode cX0_askForVotes 161 = .ok (.iload_n 1, 1) := by decide +kernel
theorem dX0_askForVotes_162 : decode cX0_askForVotes 162 = .ok (.iconst 1, 1) := by decide +kernel
theorem dX0_askForVotes_163 : decode cX0_askForVotes 163 = .ok (.iastore, 1) := by decide +kernel
theorem dX0_askForVotes_164 : decode cX0_askForVotes 164 = .ok (.aload_n 0, 1) := by decide +kernel
theorem dX0_askForVotes_165 : decode cX0_askForVotes 165 = .ok (.dup, 1) := by decide +kernel
theorem dX0_askForVotes_166 : decode cX0_askForVotes 166 = .ok (.getfield 46, 3) := by decide +kernel
theorem dX0_askForVotes_169 : decode cX0_askForVotes 169 = .ok (.iconst 1, 1) := by decide +kernel
theorem dX0_askForVotes_170 : decode cX0_askForVotes 170 = .ok (.iadd, 1) := by decide +kernel
theorem dX0_askForVotes_171 : decode cX0_askForVotes 171 = .ok (.putfield 46, 3) := by decide +kernel
theorem dX0_askForVotes_174 : decode cX0_askForVotes 174 = .ok (.iload_n 2, 1) := by decide +kernel
theorem dX0_askForVotes_175 : decode cX0_askForVotes 175 = .ok (.ireturn, 1) := by decide +kernel
theorem dX0_takeTerm_0 : decode cX0_takeTerm 0 = .ok (.aload_n 0, 1) := by decide +kernel
theorem dX0_takeTerm_1 : decode cX0_takeTerm 1 = .ok (.getfield 9, 3) := by decide +kernel
theorem dX0_takeTerm_4 : decode cX0_takeTerm 4 = .ok (.iload_n 1, 1) := by decide +kernel
theorem dX0_takeTerm_5 : decode cX0_takeTerm 5 = .ok (.iload_n 2, 1) := by decide +kernel
theorem dX0_takeTerm_6 : decode cX0_takeTerm 6 = .ok (.iastore, 1) := by decide +kernel
theorem dX0_takeTerm_7 : decode cX0_takeTerm 7 = .ok (.aload_n 0, 1) := by decide +kernel
theorem dX0_takeTerm_8 : decode cX0_takeTerm 8 = .ok (.getfield 15, 3) := by decide +kernel
theorem dX0_takeTerm_11 : decode cX0_takeTerm 11 = .ok (.iload_n 1, 1) := by decide +kernel
theorem dX0_takeTerm_12 : decode cX0_takeTerm 12 = .ok (.bipush (-4), 2) := by decide +kernel
theorem dX0_takeTerm_14 : decode cX0_takeTerm 14 = .ok (.iastore, 1) := by decide +kernel
theorem dX0_takeTerm_15 : decode cX0_takeTerm 15 = .ok (.aload_n 0, 1) := by decide +kernel
theorem dX0_takeTerm_16 : decode cX0_takeTerm 16 = .ok (.getfield 18, 3) := by decide +kernel
theorem dX0_takeTerm_19 : decode cX0_takeTerm 19 = .ok (.iload_n 1, 1) := by decide +kernel
theorem dX0_takeTerm_20 : decode cX0_takeTerm 20 = .ok (.iconst 0, 1) := by decide +kernel
theorem dX0_takeTerm_21 : decode cX0_takeTerm 21 = .ok (.iastore, 1) := by decide +kernel
theorem dX0_takeTerm_22 : decode cX0_takeTerm 22 = .ok (.return_, 1) := by decide +kernel
theorem dX0_addPage_0 : decode cX0_addPage 0 = .ok (.iload_n 1, 1) := by decide +kernel
theorem dX0_addPage_1 : decode cX0_addPage 1 = .ok (.bipush 12, 2) := by decide +kernel
theorem dX0_addPage_3 : decode cX0_addPage 3 = .ok (.imul, 1) := by decide +kernel
theorem dX0_addPage_4 : decode cX0_addPage 4 = .ok (.aload_n 0, 1) := by decide +kernel
theorem dX0_addPage_5 : decode cX0_addPage 5 = .ok (.getfield 27, 3) := by decide +kernel
theorem dX0_addPage_8 : decode cX0_addPage 8 = .ok (.iload_n 1, 1) := by decide +kernel
theorem dX0_addPage_9 : decode cX0_addPage 9 = .ok (.iaload, 1) := by decide +kernel
theorem dX0_addPage_10 : decode cX0_addPage 10 = .ok (.iadd, 1) := by decide +kernel
theorem dX0_addPage_11 : decode cX0_addPage 11 = .ok (.istore_n 3, 1) := by decide +kernel
theorem dX0_addPage_12 : decode cX0_addPage 12 = .ok (.aload_n 0, 1) := by decide +kernel
theorem dX0_addPage_13 : decode cX0_addPage 13 = .ok (.getfield 33, 3) := by decide +kernel
theorem dX0_addPage_16 : decode cX0_addPage 16 = .ok (.iload_n 3, 1) := by decide +kernel
theorem dX0_addPage_17 : decode cX0_addPage 17 = .ok (.aload_n 0, 1) := by decide +kernel
theorem dX0_addPage_18 : decode cX0_addPage 18 = .ok (.getfield 9, 3) := by decide +kernel
theorem dX0_addPage_21 : decode cX0_addPage 21 = .ok (.iload_n 1, 1) := by decide +kernel
theorem dX0_addPage_22 : decode cX0_addPage 22 = .ok (.iaload, 1) := by decide +kernel
theorem dX0_addPage_23 : decode cX0_addPage 23 = .ok (.iastore, 1) := by decide +kernel
theorem dX0_addPage_24 : decode cX0_addPage 24 = .ok (.aload_n 0, 1) := by decide +kernel
theorem dX0_addPage_25 : decode cX0_addPage 25 = .ok (.getfield 36, 3) := by decide +kernel
theorem dX0_addPage_28 : decode cX0_addPage 28 = .ok (.iload_n 3, 1) := by decide +kernel
theorem dX0_addPage_29 : decode cX0_addPage 29 = .ok (.iload_n 2, 1) := by decide +kernel
theorem dX0_addPage_30 : decode cX0_addPage 30 = .ok (.iastore, 1) := by decide +kernel
theorem dX0_addPage_31 : decode cX0_addPage 31 = .ok (.aload_n 0, 1) := by decide +kernel
theorem dX0_addPage_32 : decode cX0_addPage 32 = .ok (.getfield 27, 3) := by decide +kernel
theorem dX0_addPage_35 : decode cX0_addPage 35 = .ok (.iload_n 1, 1) := by decide +kernel
theorem dX0_addPage_36 : decode cX0_addPage 36 = .ok (.dup2, 1) := by decide +kernel
theorem dX0_addPage_37 : decode cX0_addPage 37 = .ok (.iaload, 1) := by decide +kernel
theorem dX0_addPage_38 : decode cX0_addPage 38 = .ok (.iconst 1, 1) := by decide +kernel
theorem dX0_addPage_39 : decode cX0_addPage 39 = .ok (.iadd, 1) := by decide +kernel
theorem dX0_addPage_40 : decode cX0_addPage 40 = .ok (.iastore, 1) := by decide +kernel
theorem dX0_addPage_41 : decode cX0_addPage 41 = .ok (.aload_n 0, 1) := by decide +kernel
theorem dX0_addPage_42 : decode cX0_addPage 42 = .ok (.dup, 1) := by decide +kernel
theorem dX0_addPage_43 : decode cX0_addPage 43 = .ok (.getfield 49, 3) := by decide +kernel
theorem dX0_addPage_46 : decode cX0_addPage 46 = .ok (.iconst 1, 1) := by decide +kernel
theorem dX0_addPage_47 : decode cX0_addPage 47 = .ok (.iadd, 1) := by decide +kernel
theorem dX0_addPage_48 : decode cX0_addPage 48 = .ok (.putfield 49, 3) := by decide +kernel
theorem dX0_addPage_51 : decode cX0_addPage 51 = .ok (.aload_n 0, 1) := by decide +kernel
theorem dX0_addPage_52 : decode cX0_addPage 52 = .ok (.getfield 27, 3) := by decide +kernel
theorem dX0_addPage_55 : decode cX0_addPage 55 = .ok (.iload_n 1, 1) := by decide +kernel
theorem dX0_addPage_56 : decode cX0_addPage 56 = .ok (.iaload, 1) := by decide +kernel
theorem dX0_addPage_57 : decode cX0_addPage 57 = .ok (.ireturn, 1) := by decide +kernel
set_option maxRecDepth 20000 in
theorem ggX0_goRound_X0_isReached : GoodIn wsX0_goRound wsX0_isReached := goodIn_r _ [7, 8, 9, 42, 43, 44, 45, 46, 47, 48, 49, 50, 51, 52, 53, 54, 55, 56, 57] (by decide +kernel) (by decide +kernel)
set_option maxRecDepth 20000 in
theorem gX0_goRound_X0_isReached : GoodIn wsX0_goRound (wsV RX0 67 RX0 yX0_isReached wsX0_isReached) := goodIn_app (goodIn_of _ (by decide +kernel)) ggX0_goRound_X0_isReached
set_option maxRecDepth 20000 in
theorem ggX0_goRound_X0_takeTerm : GoodIn wsX0_goRound wsX0_takeTerm := goodIn_r _ [13, 2, 14, 15, 42, 43, 44, 45, 46, 47, 48, 49, 50, 51, 52, 53, 54, 55, 56, 57] (by decide +kernel) (by decide +kernel)
set_option maxRecDepth 20000 in
theorem gX0_goRound_X0_takeTerm : GoodIn wsX0_goRound (wsV RX0 71 RX0 yX0_takeTerm wsX0_takeTerm) := goodIn_app (goodIn_of _ (by decide +kernel)) ggX0_goRound_X0_takeTerm
set_option maxRecDepth 20000 in
theorem ggX0_goRound_X0_visit : GoodIn wsX0_goRound wsX0_visit := goodIn_r _ [19, 2, 15, 20, 21, 22, 23, 24, 25, 26, 27, 28, 10, 11, 12, 6, 13, 14, 29, 30, 31, 32, 42, 43, 44, 45, 46, 47, 48, 49, 50, 51, 52, 53, 54, 55, 56, 57] (by decide +kernel) (by decide +kernel)
set_option maxRecDepth 20000 in
theorem gX0_goRound_X0_visit : GoodIn wsX0_goRound (wsV RX0 78 RX0 yX0_visit wsX0_visit) := goodIn_app (goodIn_of _ (by decide +kernel)) ggX0_goRound_X0_visit
set_option maxRecDepth 20000 in
theorem ggX0_goRound_X0_settle : GoodIn wsX0_goRound wsX0_settle := goodIn_r _ [36, 2, 37, 21, 25, 26, 27, 28, 38, 39, 40, 6, 41, 23, 3, 4, 5, 7, 8, 9, 42, 43, 44, 45, 46, 47, 48, 49, 50, 51, 52, 53, 54, 55, 56, 57] (by decide +kernel) (by decide +kernel)
set_option maxRecDepth 20000 in
theorem gX0_goRound_X0_settle : GoodIn wsX0_goRound (wsV RX0 81 RX0 yX0_settle wsX0_settle) := goodIn_app (goodIn_of _ (by decide +kernel)) ggX0_goRound_X0_settle
theorem dX0_goRound_0 : decode cX0_goRound 0 = .ok (.aload_n 0, 1) := by decide +kernel
theorem dX0_goRound_1 : decode cX0_goRound 1 = .ok (.dup, 1) := by decide +kernel
theorem dX0_goRound_2 : decode cX0_goRound 2 = .ok (.getfield 55, 3) := by decide +kernel
theorem dX0_goRound_5 : decode cX0_goRound 5 = .ok (.iconst 1, 1) := by decide +kernel
theorem dX0_goRound_6 : decode cX0_goRound 6 = .ok (.iadd, 1) := by decide +kernel
theorem dX0_goRound_7 : decode cX0_goRound 7 = .ok (.putfield 55, 3) := by decide +kernel
theorem dX0_goRound_10 : decode cX0_goRound 10 = .ok (.iconst 1, 1) := by decide +kernel
theorem dX0_goRound_11 : decode cX0_goRound 11 = .ok (.istore_n 2, 1) := by decide +kernel
theorem dX0_goRound_12 : decode cX0_goRound 12 = .ok (.iconst 0, 1) := by decide +kernel
theorem dX0_goRound_13 : decode cX0_goRound 13 = .ok (.istore_n 3, 1) := by decide +kernel
theorem dX0_goRound_14 : decode cX0_goRound 14 = .ok (.iload_n 3, 1) := by decide +kernel
theorem dX0_goRound_15 : decode cX0_goRound 15 = .ok (.iconst 5, 1) := by decide +kernel
theorem dX0_goRound_16 : decode cX0_goRound 16 = .ok (.if_icmp .ge 57, 3) := by decide +kernel
theorem dX0_goRound_19 : decode cX0_goRound 19 = .ok (.aload_n 0, 1) := by decide +kernel
theorem dX0_goRound_20 : decode cX0_goRound 20 = .ok (.iload_n 1, 1) := by decide +kernel
theorem dX0_goRound_21 : decode cX0_goRound 21 = .ok (.iload_n 3, 1) := by decide +kernel
theorem dX0_goRound_22 : decode cX0_goRound 22 = .ok (.invokevirtual 67, 3) := by decide +kernel
theorem dX0_goRound_25 : decode cX0_goRound 25 = .ok (.ifCond .ne 6, 3) := by decide +kernel
theorem dX0_goRound_28 : decode cX0_goRound 28 = .ok (.goto 39, 3) := by decide +kernel
theorem dX0_goRound_31 : decode cX0_goRound 31 = .ok (.aload_n 0, 1) := by decide +kernel
theorem dX0_goRound_32 : decode cX0_goRound 32 = .ok (.getfield 9, 3) := by decide +kernel
theorem dX0_goRound_35 : decode cX0_goRound 35 = .ok (.iload_n 3, 1) := by decide +kernel
theorem dX0_goRound_36 : decode cX0_goRound 36 = .ok (.iaload, 1) := by decide +kernel
theorem dX0_goRound_37 : decode cX0_goRound 37 = .ok (.aload_n 0, 1) := by decide +kernel
theorem dX0_goRound_38 : decode cX0_goRound 38 = .ok (.getfield 9, 3) := by decide +kernel
theorem dX0_goRound_41 : decode cX0_goRound 41 = .ok (.iload_n 1, 1) := by decide +kernel
theorem dX0_goRound_42 : decode cX0_goRound 42 = .ok (.iaload, 1) := by decide +kernel
theorem dX0_goRound_43 : decode cX0_goRound 43 = .ok (.if_icmp .le 15, 3) := by decide +kernel
theorem dX0_goRound_46 : decode cX0_goRound 46 = .ok (.aload_n 0, 1) := by decide +kernel
theorem dX0_goRound_47 : decode cX0_goRound 47 = .ok (.iload_n 1, 1) := by decide +kernel
theorem dX0_goRound_48 : decode cX0_goRound 48 = .ok (.aload_n 0, 1) := by decide +kernel
theorem dX0_goRound_49 : decode cX0_goRound 49 = .ok (.getfield 9, 3) := by decide +kernel
theorem dX0_goRound_52 : decode cX0_goRound 52 = .ok (.iload_n 3, 1) := by decide +kernel
theorem dX0_goRound_53 : decode cX0_goRound 53 = .ok (.iaload, 1) := by decide +kernel
theorem dX0_goRound_54 : decode cX0_goRound 54 = .ok (.invokevirtual 71, 3) := by decide +kernel
theorem dX0_goRound_57 : decode cX0_goRound 57 = .ok (.return_, 1) := by decide +kernel
theorem dX0_goRound_58 : decode cX0_goRound 58 = .ok (.aload_n 0, 1) := by decide +kernel
theorem dX0_goRound_59 : decode cX0_goRound 59 = .ok (.iload_n 1, 1) := by decide +kernel
theorem dX0_goRound_60 : decode cX0_goRound 60 = .ok (.iload_n 3, 1) := by decide +kernel
theorem dX0_goRound_61 : decode cX0_goRound 61 = .ok (.invokevirtual 78, 3) := by decide +kernel
theorem dX0_goRound_64 : decode cX0_goRound 64 = .ok (.iinc 2 1, 3) := by decide +kernel
theorem dX0_goRound_67 : decode cX0_goRound 67 = .ok (.iinc 3 1, 3) := by decide +kernel
theorem dX0_goRound_70 : decode cX0_goRound 70 = .ok (.goto (-56), 3) := by decide +kernel
theorem dX0_goRound_73 : decode cX0_goRound 73 = .ok (.aload_n 0, 1) := by decide +kernel
theorem dX0_goRound_74 : decode cX0_goRound 74 = .ok (.iload_n 1, 1) := by decide +kernel
theorem dX0_goRound_75 : decode cX0_goRound 75 = .ok (.iload_n 2, 1) := by decide +kernel
theorem dX0_goRound_76 : decode cX0_goRound 76 = .ok (.invokevirtual 81, 3) := by decide +kernel
theorem dX0_goRound_79 : decode cX0_goRound 79 = .ok (.return_, 1) := by decide +kernel
set_option maxRecDepth 20000 in
theorem ggX0_visit_X0_takeTerm : GoodIn wsX0_visit wsX0_takeTerm := goodIn_r _ [16, 1, 17, 2, 22, 23, 24, 25, 26, 27, 28, 29, 30, 31, 32, 33, 34, 35, 36, 37] (by decide +kernel) (by decide +kernel)
set_option maxRecDepth 20000 in
theorem gX0_visit_X0_takeTerm : GoodIn wsX0_visit (wsV RX0 71 RX0 yX0_takeTerm wsX0_takeTerm) := goodIn_app (goodIn_of _ (by decide +kernel)) ggX0_visit_X0_takeTerm
set_option maxRecDepth 20000 in
theorem ggX0_visit_X0_pagesAlike : GoodIn wsX0_visit wsX0_pagesAlike := goodIn_r _ [21, 4, 6, 7, 22, 23, 24, 25, 26, 27, 28, 29, 30, 31, 32, 33, 34, 35, 36, 37] (by decide +kernel) (by decide +kernel)
set_option maxRecDepth 20000 in
theorem gX0_visit_X0_pagesAlike : GoodIn wsX0_visit (wsV RX0 84 RX0 yX0_pagesAlike wsX0_pagesAlike) := goodIn_app (goodIn_of _ (by decide +kernel)) ggX0_visit_X0_pagesAlike
theorem dX0_visit_0 : decode cX0_visit 0 = .ok (.aload_n 0, 1) := by decide +kernel
theorem dX0_visit_1 : decode cX0_visit 1 = .ok (.getfield 9, 3) := by decide +kernel
theorem dX0_visit_4 : decode cX0_visit 4 = .ok (.iload_n 2, 1) := by decide +kernel
theorem dX0_visit_5 : decode cX0_visit 5 = .ok (.iaload, 1) := by decide +kernel
theorem dX0_visit_6 : decode cX0_visit 6 = .ok (.aload_n 0, 1) := by decide +kernel
theorem dX0_visit_7 : decode cX0_visit 7 = .ok (.getfield 9, 3) := by decide +kernel
theorem dX0_visit_10 : decode cX0_visit 10 = .ok (.iload_n 1, 1) := by decide +kernel
theorem dX0_visit_11 : decode cX0_visit 11 = .ok (.iaload, 1) := by decide +kernel
theorem dX0_visit_12 : decode cX0_visit 12 = .ok (.if_icmp .ge 14, 3) := by decide +kernel
theorem dX0_visit_15 : decode cX0_visit 15 = .ok (.aload_n 0, 1) := by decide +kernel
theorem dX0_visit_16 : decode cX0_visit 16 = .ok (.iload_n 2, 1) := by decide +kernel
theorem dX0_visit_17 : decode cX0_visit 17 = .ok (.aload_n 0, 1) := by decide +kernel
theorem dX0_visit_18 : decode cX0_visit 18 = .ok (.getfield 9, 3) := by decide +kernel
theorem dX0_visit_21 : decode cX0_visit 21 = .ok (.iload_n 1, 1) := by decide +kernel
theorem dX0_visit_22 : decode cX0_visit 22 = .ok (.iaload, 1) := by decide +kernel
theorem dX0_visit_23 : decode cX0_visit 23 = .ok (.invokevirtual 71, 3) := by decide +kernel
theorem dX0_visit_26 : decode cX0_visit 26 = .ok (.aload_n 0, 1) := by decide +kernel
theorem dX0_visit_27 : decode cX0_visit 27 = .ok (.getfield 18, 3) := by decide +kernel
theorem dX0_visit_30 : decode cX0_visit 30 = .ok (.iload_n 2, 1) := by decide +kernel
theorem dX0_visit_31 : decode cX0_visit 31 = .ok (.iconst 0, 1) := by decide +kernel
theorem dX0_visit_32 : decode cX0_visit 32 = .ok (.iastore, 1) := by decide +kernel
theorem dX0_visit_33 : decode cX0_visit 33 = .ok (.aload_n 0, 1) := by decide +kernel
theorem dX0_visit_34 : decode cX0_visit 34 = .ok (.getfield 24, 3) := by decide +kernel
theorem dX0_visit_37 : decode cX0_visit 37 = .ok (.iload_n 2, 1) := by decide +kernel
theorem dX0_visit_38 : decode cX0_visit 38 = .ok (.iconst 0, 1) := by decide +kernel
theorem dX0_visit_39 : decode cX0_visit 39 = .ok (.iastore, 1) := by decide +kernel
theorem dX0_visit_40 : decode cX0_visit 40 = .ok (.aload_n 0, 1) := by decide +kernel
theorem dX0_visit_41 : decode cX0_visit 41 = .ok (.iload_n 1, 1) := by decide +kernel
theorem dX0_visit_42 : decode cX0_visit 42 = .ok (.iload_n 2, 1) := by decide +kernel
theorem dX0_visit_43 : decode cX0_visit 43 = .ok (.invokevirtual 84, 3) := by decide +kernel
theorem dX0_visit_46 : decode cX0_visit 46 = .ok (.istore_n 3, 1) := by decide +kernel
theorem dX0_visit_47 : decode cX0_visit 47 = .ok (.iload_n 3, 1) := by decide +kernel
theorem dX0_visit_48 : decode cX0_visit 48 = .ok (.aload_n 0, 1) := by decide +kernel
theorem dX0_visit_49 : decode cX0_visit 49 = .ok (.getfield 27, 3) := by decide +kernel
theorem dX0_visit_52 : decode cX0_visit 52 = .ok (.iload_n 1, 1) := by decide +kernel
theorem dX0_visit_53 : decode cX0_visit 53 = .ok (.iaload, 1) := by decide +kernel
theorem dX0_visit_54 : decode cX0_visit 54 = .ok (.if_icmp .ge 37, 3) := by decide +kernel
theorem dX0_visit_57 : decode cX0_visit 57 = .ok (.iload_n 3, 1) := by decide +kernel
theorem dX0_visit_58 : decode cX0_visit 58 = .ok (.aload_n 0, 1) := by decide +kernel
theorem dX0_visit_59 : decode cX0_visit 59 = .ok (.getfield 27, 3) := by decide +kernel
theorem dX0_visit_62 : decode cX0_visit 62 = .ok (.iload_n 2, 1) := by decide +kernel
theorem dX0_visit_63 : decode cX0_visit 63 = .ok (.iaload, 1) := by decide +kernel
theorem dX0_visit_64 : decode cX0_visit 64 = .ok (.if_icmp .ge 27, 3) := by decide +kernel
theorem dX0_visit_67 : decode cX0_visit 67 = .ok (.aload_n 0, 1) := by decide +kernel
theorem dX0_visit_68 : decode cX0_visit 68 = .ok (.dup, 1) := by decide +kernel
theorem dX0_visit_69 : decode cX0_visit 69 = .ok (.getfield 52, 3) := by decide +kernel
theorem dX0_visit_72 : decode cX0_visit 72 = .ok (.aload_n 0, 1) := by decide +kernel
theorem dX0_visit_73 : decode cX0_visit 73 = .ok (.getfield 27, 3) := by decide +kernel
theorem dX0_visit_76 : decode cX0_visit 76 = .ok (.iload_n 2, 1) := by decide +kernel
theorem dX0_visit_77 : decode cX0_visit 77 = .ok (.iaload, 1) := by decide +kernel
theorem dX0_visit_78 : decode cX0_visit 78 = .ok (.iload_n 3, 1) := by decide +kernel
theorem dX0_visit_79 : decode cX0_visit 79 = .ok (.isub, 1) := by decide +kernel
theorem dX0_visit_80 : decode cX0_visit 80 = .ok (.iadd, 1) := by decide +kernel
theorem dX0_visit_81 : decode cX0_visit 81 = .ok (.putfield 52, 3) := by decide +kernel
theorem dX0_visit_84 : decode cX0_visit 84 = .ok (.aload_n 0, 1) := by decide +kernel
theorem dX0_visit_85 : decode cX0_visit 85 = .ok (.getfield 27, 3) := by decide +kernel
theorem dX0_visit_88 : decode cX0_visit 88 = .ok (.iload_n 2, 1) := by decide +kernel
theorem dX0_visit_89 : decode cX0_visit 89 = .ok (.iload_n 3, 1) := by decide +kernel
theorem dX0_visit_90 : decode cX0_visit 90 = .ok (.iastore, 1) := by decide +kernel
theorem dX0_visit_91 : decode cX0_visit 91 = .ok (.aload_n 0, 1) := by decide +kernel
theorem dX0_visit_92 : decode cX0_visit 92 = .ok (.getfield 27, 3) := by decide +kernel
theorem dX0_visit_95 : decode cX0_visit 95 = .ok (.iload_n 2, 1) := by decide +kernel
theorem dX0_visit_96 : decode cX0_visit 96 = .ok (.iaload, 1) := by decide +kernel
theorem dX0_visit_97 : decode cX0_visit 97 = .ok (.istore 4, 2) := by decide +kernel
theorem dX0_visit_99 : decode cX0_visit 99 = .ok (.iload 4, 2) := by decide +kernel
theorem dX0_visit_101 : decode cX0_visit 101 = .ok (.aload_n 0, 1) := by decide +kernel
theorem dX0_visit_102 : decode cX0_visit 102 = .ok (.getfield 27, 3) := by decide +kernel
theorem dX0_visit_105 : decode cX0_visit 105 = .ok (.iload_n 1, 1) := by decide +kernel
theorem dX0_visit_106 : decode cX0_visit 106 = .ok (.iaload, 1) := by decide +kernel
theorem dX0_visit_107 : decode cX0_visit 107 = .ok (.if_icmp .ge 57, 3) := by decide +kernel
theorem dX0_visit_110 : decode cX0_visit 110 = .ok (.aload_n 0, 1) := by decide +kernel
theorem dX0_visit_111 : decode cX0_visit 111 = .ok (.getfield 33, 3) := by decide +kernel
theorem dX0_visit_114 : decode cX0_visit 114 = .ok (.iload_n 2, 1) := by decide +kernel
theorem dX0_visit_115 : decode cX0_visit 115 = .ok (.bipush 12, 2) := by decide +kernel
theorem dX0_visit_117 : decode cX0_visit 117 = .ok (.imul, 1) := by decide +kernel
theorem dX0_visit_118 : decode cX0_visit 118 = .ok (.iload 4, 2) := by decide +kernel
theorem dX0_visit_120 : decode cX0_visit 120 = .ok (.iadd, 1) := by decide +kernel
theorem dX0_visit_121 : decode cX0_visit 121 = .ok (.aload_n 0, 1) := by decide +kernel
theorem dX0_visit_122 : decode cX0_visit 122 = .ok (.getfield 33, 3) := by decide +kernel
theorem dX0_visit_125 : decode cX0_visit 125 = .ok (.iload_n 1, 1) := by decide +kernel
theorem dX0_visit_126 : decode cX0_visit 126 = .ok (.bipush 12, 2) := by decide +kernel
theorem dX0_visit_128 : decode cX0_visit 128 = .ok (.imul, 1) := by decide +kernel
theorem dX0_visit_129 : decode cX0_visit 129 = .ok (.iload 4, 2) := by decide +kernel
theorem dX0_visit_131 : decode cX0_visit 131 = .ok (.iadd, 1) := by decide +kernel
theorem dX0_visit_132 : decode cX0_visit 132 = .ok (.iaload, 1) := by decide +kernel
theorem dX0_visit_133 : decode cX0_visit 133 = .ok (.iastore, 1) := by decide +kernel
theorem dX0_visit_134 : decode cX0_visit 134 = .ok (.aload_n 0, 1) := by decide +kernel
theorem dX0_visit_135 : decode cX0_visit 135 = .ok (.getfield 36, 3) := by decide +kernel
theorem dX0_visit_138 : decode cX0_visit 138 = .ok (.iload_n 2, 1) := by decide +kernel
theorem dX0_visit_139 : decode cX0_visit 139 = .ok (.bipush 12, 2) := by decide +kernel
theorem dX0_visit_141 : decode cX0_visit 141 = .ok (.imul, 1) := by decide +kernel
theorem dX0_visit_142 : decode cX0_visit 142 = .ok (.iload 4, 2) := by decide +kernel
theorem dX0_visit_144 : decode cX0_visit 144 = .ok (.iadd, 1) := by decide +kernel
theorem dX0_visit_145 : decode cX0_visit 145 = .ok (.aload_n 0, 1) := by decide +kernel
theorem dX0_visit_146 : decode cX0_visit 146 = .ok (.getfield 36, 3) := by decide +kernel
theorem dX0_visit_149 : decode cX0_visit 149 = .ok (.iload_n 1, 1) := by decide +kernel
theorem dX0_visit_150 : decode cX0_visit 150 = .ok (.bipush 12, 2) := by decide +kernel
theorem dX0_visit_152 : decode cX0_visit 152 = .ok (.imul, 1) := by decide +kernel
theorem dX0_visit_153 : decode cX0_visit 153 = .ok (.iload 4, 2) := by decide +kernel
theorem dX0_visit_155 : decode cX0_visit 155 = .ok (.iadd, 1) := by decide +kernel
theorem dX0_visit_156 : decode cX0_visit 156 = .ok (.iaload, 1) := by decide +kernel
theorem dX0_visit_157 : decode cX0_visit 157 = .ok (.iastore, 1) := by decide +kernel
theorem dX0_visit_158 : decode cX0_visit 158 = .ok (.iinc 4 1, 3) := by decide +kernel
theorem dX0_visit_161 : decode cX0_visit 161 = .ok (.goto (-62), 3) := by decide +kernel
theorem dX0_visit_164 : decode cX0_visit 164 = .ok (.aload_n 0, 1) := by decide +kernel
theorem dX0_visit_165 : decode cX0_visit 165 = .ok (.getfield 27, 3) := by decide +kernel
theorem dX0_visit_168 : decode cX0_visit 168 = .ok (.iload_n 2, 1) := by decide +kernel
theorem dX0_visit_169 : decode cX0_visit 169 = .ok (.aload_n 0, 1) := by decide +kernel
theorem dX0_visit_170 : decode cX0_visit 170 = .ok (.getfield 27, 3) := by decide +kernel
theorem dX0_visit_173 : decode cX0_visit 173 = .ok (.iload_n 2, 1) := by decide +kernel
theorem dX0_visit_174 : decode cX0_visit 174 = .ok (.iaload, 1) := by decide +kernel
theorem dX0_visit_175 : decode cX0_visit 175 = .ok (.aload_n 0, 1) := by decide +kernel
theorem dX0_visit_176 : decode cX0_visit 176 = .ok (.getfield 27, 3) := by decide +kernel
theorem dX0_visit_179 : decode cX0_visit 179 = .ok (.iload_n 1, 1) := by decide +kernel
theorem dX0_visit_180 : decode cX0_visit 180 = .ok (.iaload, 1) := by decide +kernel
theorem dX0_visit_181 : decode cX0_visit 181 = .ok (.invokestatic 88, 3) := by decide +kernel
theorem dX0_visit_184 : decode cX0_visit 184 = .ok (.iastore, 1) := by decide +kernel
theorem dX0_visit_185 : decode cX0_visit 185 = .ok (.return_, 1) := by decide +kernel
set_option maxRecDepth 20000 in
theorem ggX0_settle_X0_lastTerm : GoodIn wsX0_settle wsX0_lastTerm := goodIn_r _ [12, 3, 13, 20, 21, 22, 23, 24, 25, 26, 27, 28, 29, 30, 31, 32, 33, 34, 35] (by decide +kernel) (by decide +kernel)
set_option maxRecDepth 20000 in
theorem gX0_settle_X0_lastTerm : GoodIn wsX0_settle (wsV RX0 93 RX0 yX0_lastTerm wsX0_lastTerm) := goodIn_app (goodIn_of _ (by decide +kernel)) ggX0_settle_X0_lastTerm
set_option maxRecDepth 20000 in
theorem ggX0_settle_X0_isReached : GoodIn wsX0_settle wsX0_isReached := goodIn_r _ [17, 18, 19, 20, 21, 22, 23, 24, 25, 26, 27, 28, 29, 30, 31, 32, 33, 34, 35] (by decide +kernel) (by decide +kernel)
set_option maxRecDepth 20000 in
theorem gX0_settle_X0_isReached : GoodIn wsX0_settle (wsV RX0 67 RX0 yX0_isReached wsX0_isReached) := goodIn_app (goodIn_of _ (by decide +kernel)) ggX0_settle_X0_isReached
theorem dX0_settle_0 : decode cX0_settle 0 = .ok (.iload_n 2, 1) := by decide +kernel
theorem dX0_settle_1 : decode cX0_settle 1 = .ok (.iconst 3, 1) := by decide +kernel
theorem dX0_settle_2 : decode cX0_settle 2 = .ok (.if_icmp .lt 38, 3) := by decide +kernel
theorem dX0_settle_5 : decode cX0_settle 5 = .ok (.aload_n 0, 1) := by decide +kernel
theorem dX0_settle_6 : decode cX0_settle 6 = .ok (.iload_n 1, 1) := by decide +kernel
theorem dX0_settle_7 : decode cX0_settle 7 = .ok (.invokevirtual 93, 3) := by decide +kernel
theorem dX0_settle_10 : decode cX0_settle 10 = .ok (.aload_n 0, 1) := by decide +kernel
theorem dX0_settle_11 : decode cX0_settle 11 = .ok (.getfield 9, 3) := by decide +kernel
theorem dX0_settle_14 : decode cX0_settle 14 = .ok (.iload_n 1, 1) := by decide +kernel
theorem dX0_settle_15 : decode cX0_settle 15 = .ok (.iaload, 1) := by decide +kernel
theorem dX0_settle_16 : decode cX0_settle 16 = .ok (.if_icmp .ne 24, 3) := by decide +kernel
theorem dX0_settle_19 : decode cX0_settle 19 = .ok (.aload_n 0, 1) := by decide +kernel
theorem dX0_settle_20 : decode cX0_settle 20 = .ok (.getfield 30, 3) := by decide +kernel
theorem dX0_settle_23 : decode cX0_settle 23 = .ok (.iload_n 1, 1) := by decide +kernel
theorem dX0_settle_24 : decode cX0_settle 24 = .ok (.aload_n 0, 1) := by decide +kernel
theorem dX0_settle_25 : decode cX0_settle 25 = .ok (.getfield 30, 3) := by decide +kernel
theorem dX0_settle_28 : decode cX0_settle 28 = .ok (.iload_n 1, 1) := by decide +kernel
theorem dX0_settle_29 : decode cX0_settle 29 = .ok (.iaload, 1) := by decide +kernel
theorem dX0_settle_30 : decode cX0_settle 30 = .ok (.aload_n 0, 1) := by decide +kernel
theorem dX0_settle_31 : decode cX0_settle 31 = .ok (.getfield 27, 3) := by decide +kernel
theorem dX0_settle_34 : decode cX0_settle 34 = .ok (.iload_n 1, 1) := by decide +kernel
theorem dX0_settle_35 : decode cX0_settle 35 = .ok (.iaload, 1) := by decide +kernel
theorem dX0_settle_36 : decode cX0_settle 36 = .ok (.invokestatic 88, 3) := by decide +kernel
theorem dX0_settle_39 : decode cX0_settle 39 = .ok (.iastore, 1) := by decide +kernel
theorem dX0_settle_40 : decode cX0_settle 40 = .ok (.iconst 0, 1) := by decide +kernel
theorem dX0_settle_41 : decode cX0_settle 41 = .ok (.istore_n 3, 1) := by decide +kernel
theorem dX0_settle_42 : decode cX0_settle 42 = .ok (.iload_n 3, 1) := by decide +kernel
theorem dX0_settle_43 : decode cX0_settle 43 = .ok (.iconst 5, 1) := by decide +kernel
theorem dX0_settle_44 : decode cX0_settle 44 = .ok (.if_icmp .ge 39, 3) := by decide +kernel
theorem dX0_settle_47 : decode cX0_settle 47 = .ok (.aload_n 0, 1) := by decide +kernel
theorem dX0_settle_48 : decode cX0_settle 48 = .ok (.iload_n 1, 1) := by decide +kernel
theorem dX0_settle_49 : decode cX0_settle 49 = .ok (.iload_n 3, 1) := by decide +kernel
theorem dX0_settle_50 : decode cX0_settle 50 = .ok (.invokevirtual 67, 3) := by decide +kernel
theorem dX0_settle_53 : decode cX0_settle 53 = .ok (.ifCond .eq 24, 3) := by decide +kernel
theorem dX0_settle_56 : decode cX0_settle 56 = .ok (.aload_n 0, 1) := by decide +kernel
theorem dX0_settle_57 : decode cX0_settle 57 = .ok (.getfield 30, 3) := by decide +kernel
theorem dX0_settle_60 : decode cX0_settle 60 = .ok (.iload_n 3, 1) := by decide +kernel
theorem dX0_settle_61 : decode cX0_settle 61 = .ok (.aload_n 0, 1) := by decide +kernel
theorem dX0_settle_62 : decode cX0_settle 62 = .ok (.getfield 30, 3) := by decide +kernel
theorem dX0_settle_65 : decode cX0_settle 65 = .ok (.iload_n 3, 1) := by decide +kernel
theorem dX0_settle_66 : decode cX0_settle 66 = .ok (.iaload, 1) := by decide +kernel
theorem dX0_settle_67 : decode cX0_settle 67 = .ok (.aload_n 0, 1) := by decide +kernel
theorem dX0_settle_68 : decode cX0_settle 68 = .ok (.getfield 30, 3) := by decide +kernel
theorem dX0_settle_71 : decode cX0_settle 71 = .ok (.iload_n 1, 1) := by decide +kernel
theorem dX0_settle_72 : decode cX0_settle 72 = .ok (.iaload, 1) := by decide +kernel
theorem dX0_settle_73 : decode cX0_settle 73 = .ok (.invokestatic 88, 3) := by decide +kernel
theorem dX0_settle_76 : decode cX0_settle 76 = .ok (.iastore, 1) := by decide +kernel
theorem dX0_settle_77 : decode cX0_settle 77 = .ok (.iinc 3 1, 3) := by decide +kernel
theorem dX0_settle_80 : decode cX0_settle 80 = .ok (.goto (-38), 3) := by decide +kernel
theorem dX0_settle_83 : decode cX0_settle 83 = .ok (.return_, 1) := by decide +kernel
set_option maxRecDepth 20000 in
theorem ggX0_letHourGoBy_X0_goRound : GoodIn wsX0_letHourGoBy wsX0_goRound := goodIn_r _ [8, 9, 10, 11, 12, 13, 7, 14, 15, 16, 17, 18, 19, 20, 21, 2, 22, 23, 24, 25, 3, 26, 27, 28, 29, 30, 31, 32, 33, 34, 35, 36, 37, 38, 39, 40, 41, 42, 43, 44, 45, 46, 61, 62, 63, 64, 65, 66, 67, 68, 69, 70, 71, 72, 73, 74, 75, 76] (by decide +kernel) (by decide +kernel)
set_option maxRecDepth 20000 in
theorem gX0_letHourGoBy_X0_goRound : GoodIn wsX0_letHourGoBy (wsV RX0 97 RX0 yX0_goRound wsX0_goRound) := goodIn_app (goodIn_of _ (by decide +kernel)) ggX0_letHourGoBy_X0_goRound
set_option maxRecDepth 20000 in
theorem ggX0_letHourGoBy_X0_isWaiting : GoodIn wsX0_letHourGoBy wsX0_isWaiting := goodIn_r _ [50, 15, 2, 61, 62, 63, 64, 65, 66, 67, 68, 69, 70, 71, 72, 73, 74, 75, 76] (by decide +kernel) (by decide +kernel)
set_option maxRecDepth 20000 in
theorem gX0_letHourGoBy_X0_isWaiting : GoodIn wsX0_letHourGoBy (wsV RX0 101 RX0 yX0_isWaiting wsX0_isWaiting) := goodIn_app (goodIn_of _ (by decide +kernel)) ggX0_letHourGoBy_X0_isWaiting
set_option maxRecDepth 20000 in
theorem ggX0_letHourGoBy_X0_askForVotes : GoodIn wsX0_letHourGoBy wsX0_askForVotes := goodIn_r _ [54, 55, 10, 21, 3, 2, 56, 11, 12, 13, 7, 14, 15, 16, 17, 18, 19, 20, 57, 58, 59, 60, 26, 43, 44, 45, 46, 28, 61, 62, 63, 64, 65, 66, 67, 68, 69, 70, 71, 72, 73, 74, 75, 76] (by decide +kernel) (by decide +kernel)
set_option maxRecDepth 20000 in
theorem gX0_letHourGoBy_X0_askForVotes : GoodIn wsX0_letHourGoBy (wsV RX0 105 RX0 yX0_askForVotes wsX0_askForVotes) := goodIn_app (goodIn_of _ (by decide +kernel)) ggX0_letHourGoBy_X0_askForVotes
theorem dX0_letHourGoBy_0 : decode cX0_letHourGoBy 0 = .ok (.aload_n 0, 1) := by decide +kernel
theorem dX0_letHourGoBy_1 : decode cX0_letHourGoBy 1 = .ok (.dup, 1) := by decide +kernel
theorem dX0_letHourGoBy_2 : decode cX0_letHourGoBy 2 = .ok (.getfield 58, 3) := by decide +kernel
theorem dX0_letHourGoBy_5 : decode cX0_letHourGoBy 5 = .ok (.iconst 1, 1) := by decide +kernel
theorem dX0_letHourGoBy_6 : decode cX0_letHourGoBy 6 = .ok (.iadd, 1) := by decide +kernel
theorem dX0_letHourGoBy_7 : decode cX0_letHourGoBy 7 = .ok (.putfield 58, 3) := by decide +kernel
theorem dX0_letHourGoBy_10 : decode cX0_letHourGoBy 10 = .ok (.iconst 0, 1) := by decide +kernel
theorem dX0_letHourGoBy_11 : decode cX0_letHourGoBy 11 = .ok (.istore_n 1, 1) := by decide +kernel
theorem dX0_letHourGoBy_12 : decode cX0_letHourGoBy 12 = .ok (.iload_n 1, 1) := by decide +kernel
theorem dX0_letHourGoBy_13 : decode cX0_letHourGoBy 13 = .ok (.iconst 5, 1) := by decide +kernel
theorem dX0_letHourGoBy_14 : decode cX0_letHourGoBy 14 = .ok (.if_icmp .ge 24, 3) := by decide +kernel
theorem dX0_letHourGoBy_17 : decode cX0_letHourGoBy 17 = .ok (.aload_n 0, 1) := by decide +kernel
theorem dX0_letHourGoBy_18 : decode cX0_letHourGoBy 18 = .ok (.getfield 18, 3) := by decide +kernel
theorem dX0_letHourGoBy_21 : decode cX0_letHourGoBy 21 = .ok (.iload_n 1, 1) := by decide +kernel
theorem dX0_letHourGoBy_22 : decode cX0_letHourGoBy 22 = .ok (.iaload, 1) := by decide +kernel
theorem dX0_letHourGoBy_23 : decode cX0_letHourGoBy 23 = .ok (.iconst 1, 1) := by decide +kernel
theorem dX0_letHourGoBy_24 : decode cX0_letHourGoBy 24 = .ok (.if_icmp .ne 8, 3) := by decide +kernel
theorem dX0_letHourGoBy_27 : decode cX0_letHourGoBy 27 = .ok (.aload_n 0, 1) := by decide +kernel
theorem dX0_letHourGoBy_28 : decode cX0_letHourGoBy 28 = .ok (.iload_n 1, 1) := by decide +kernel
theorem dX0_letHourGoBy_29 : decode cX0_letHourGoBy 29 = .ok (.invokevirtual 97, 3) := by decide +kernel
theorem dX0_letHourGoBy_32 : decode cX0_letHourGoBy 32 = .ok (.iinc 1 1, 3) := by decide +kernel
theorem dX0_letHourGoBy_35 : decode cX0_letHourGoBy 35 = .ok (.goto (-23), 3) := by decide +kernel
theorem dX0_letHourGoBy_38 : decode cX0_letHourGoBy 38 = .ok (.iconst 0, 1) := by decide +kernel
theorem dX0_letHourGoBy_39 : decode cX0_letHourGoBy 39 = .ok (.istore_n 1, 1) := by decide +kernel
theorem dX0_letHourGoBy_40 : decode cX0_letHourGoBy 40 = .ok (.iload_n 1, 1) := by decide +kernel
theorem dX0_letHourGoBy_41 : decode cX0_letHourGoBy 41 = .ok (.iconst 5, 1) := by decide +kernel
theorem dX0_letHourGoBy_42 : decode cX0_letHourGoBy 42 = .ok (.if_icmp .ge 27, 3) := by decide +kernel
theorem dX0_letHourGoBy_45 : decode cX0_letHourGoBy 45 = .ok (.aload_n 0, 1) := by decide +kernel
theorem dX0_letHourGoBy_46 : decode cX0_letHourGoBy 46 = .ok (.iload_n 1, 1) := by decide +kernel
theorem dX0_letHourGoBy_47 : decode cX0_letHourGoBy 47 = .ok (.invokevirtual 101, 3) := by decide +kernel
theorem dX0_letHourGoBy_50 : decode cX0_letHourGoBy 50 = .ok (.ifCond .eq 13, 3) := by decide +kernel
theorem dX0_letHourGoBy_53 : decode cX0_letHourGoBy 53 = .ok (.aload_n 0, 1) := by decide +kernel
theorem dX0_letHourGoBy_54 : decode cX0_letHourGoBy 54 = .ok (.getfield 24, 3) := by decide +kernel
theorem dX0_letHourGoBy_57 : decode cX0_letHourGoBy 57 = .ok (.iload_n 1, 1) := by decide +kernel
theorem dX0_letHourGoBy_58 : decode cX0_letHourGoBy 58 = .ok (.dup2, 1) := by decide +kernel
theorem dX0_letHourGoBy_59 : decode cX0_letHourGoBy 59 = .ok (.iaload, 1) := by decide +kernel
theorem dX0_letHourGoBy_60 : decode cX0_letHourGoBy 60 = .ok (.iconst 1, 1) := by decide +kernel
theorem dX0_letHourGoBy_61 : decode cX0_letHourGoBy 61 = .ok (.iadd, 1) := by decide +kernel
theorem dX0_letHourGoBy_62 : decode cX0_letHourGoBy 62 = .ok (.iastore, 1) := by decide +kernel
theorem dX0_letHourGoBy_63 : decode cX0_letHourGoBy 63 = .ok (.iinc 1 1, 3) := by decide +kernel
theorem dX0_letHourGoBy_66 : decode cX0_letHourGoBy 66 = .ok (.goto (-26), 3) := by decide +kernel
theorem dX0_letHourGoBy_69 : decode cX0_letHourGoBy 69 = .ok (.iconst 0, 1) := by decide +kernel
theorem dX0_letHourGoBy_70 : decode cX0_letHourGoBy 70 = .ok (.istore_n 1, 1) := by decide +kernel
theorem dX0_letHourGoBy_71 : decode cX0_letHourGoBy 71 = .ok (.iload_n 1, 1) := by decide +kernel
theorem dX0_letHourGoBy_72 : decode cX0_letHourGoBy 72 = .ok (.iconst 5, 1) := by decide +kernel
theorem dX0_letHourGoBy_73 : decode cX0_letHourGoBy 73 = .ok (.if_icmp .ge 35, 3) := by decide +kernel
theorem dX0_letHourGoBy_76 : decode cX0_letHourGoBy 76 = .ok (.aload_n 0, 1) := by decide +kernel
theorem dX0_letHourGoBy_77 : decode cX0_letHourGoBy 77 = .ok (.iload_n 1, 1) := by decide +kernel
theorem dX0_letHourGoBy_78 : decode cX0_letHourGoBy 78 = .ok (.invokevirtual 101, 3) := by decide +kernel
theorem dX0_letHourGoBy_81 : decode cX0_letHourGoBy 81 = .ok (.ifCond .eq 21, 3) := by decide +kernel
theorem dX0_letHourGoBy_84 : decode cX0_letHourGoBy 84 = .ok (.aload_n 0, 1) := by decide +kernel
theorem dX0_letHourGoBy_85 : decode cX0_letHourGoBy 85 = .ok (.getfield 24, 3) := by decide +kernel
theorem dX0_letHourGoBy_88 : decode cX0_letHourGoBy 88 = .ok (.iload_n 1, 1) := by decide +kernel
theorem dX0_letHourGoBy_89 : decode cX0_letHourGoBy 89 = .ok (.iaload, 1) := by decide +kernel
theorem dX0_letHourGoBy_90 : decode cX0_letHourGoBy 90 = .ok (.iconst 3, 1) := by decide +kernel
theorem dX0_letHourGoBy_91 : decode cX0_letHourGoBy 91 = .ok (.iload_n 1, 1) := by decide +kernel
theorem dX0_letHourGoBy_92 : decode cX0_letHourGoBy 92 = .ok (.iadd, 1) := by decide +kernel
theorem dX0_letHourGoBy_93 : decode cX0_letHourGoBy 93 = .ok (.if_icmp .lt 9, 3) := by decide +kernel
theorem dX0_letHourGoBy_96 : decode cX0_letHourGoBy 96 = .ok (.aload_n 0, 1) := by decide +kernel
theorem dX0_letHourGoBy_97 : decode cX0_letHourGoBy 97 = .ok (.iload_n 1, 1) := by decide +kernel
theorem dX0_letHourGoBy_98 : decode cX0_letHourGoBy 98 = .ok (.invokevirtual 105, 3) := by decide +kernel
theorem dX0_letHourGoBy_101 : decode cX0_letHourGoBy 101 = .ok (.pop, 1) := by decide +kernel
theorem dX0_letHourGoBy_102 : decode cX0_letHourGoBy 102 = .ok (.iinc 1 1, 3) := by decide +kernel
theorem dX0_letHourGoBy_105 : decode cX0_letHourGoBy 105 = .ok (.goto (-34), 3) := by decide +kernel
theorem dX0_letHourGoBy_108 : decode cX0_letHourGoBy 108 = .ok (.return_, 1) := by decide +kernel
theorem dX0_isWaiting_0 : decode cX0_isWaiting 0 = .ok (.aload_n 0, 1) := by decide +kernel
theorem dX0_isWaiting_1 : decode cX0_isWaiting 1 = .ok (.getfield 21, 3) := by decide +kernel
theorem dX0_isWaiting_4 : decode cX0_isWaiting 4 = .ok (.iload_n 1, 1) := by decide +kernel
theorem dX0_isWaiting_5 : decode cX0_isWaiting 5 = .ok (.iaload, 1) := by decide +kernel
theorem dX0_isWaiting_6 : decode cX0_isWaiting 6 = .ok (.iconst 1, 1) := by decide +kernel
theorem dX0_isWaiting_7 : decode cX0_isWaiting 7 = .ok (.if_icmp .ne 16, 3) := by decide +kernel
theorem dX0_isWaiting_10 : decode cX0_isWaiting 10 = .ok (.aload_n 0, 1) := by decide +kernel
theorem dX0_isWaiting_11 : decode cX0_isWaiting 11 = .ok (.getfield 18, 3) := by decide +kernel
theorem dX0_isWaiting_14 : decode cX0_isWaiting 14 = .ok (.iload_n 1, 1) := by decide +kernel
theorem dX0_isWaiting_15 : decode cX0_isWaiting 15 = .ok (.iaload, 1) := by decide +kernel
theorem dX0_isWaiting_16 : decode cX0_isWaiting 16 = .ok (.ifCond .ne 7, 3) := by decide +kernel
theorem dX0_isWaiting_19 : decode cX0_isWaiting 19 = .ok (.iconst 1, 1) := by decide +kernel
theorem dX0_isWaiting_20 : decode cX0_isWaiting 20 = .ok (.goto 4, 3) := by decide +kernel
theorem dX0_isWaiting_23 : decode cX0_isWaiting 23 = .ok (.iconst 0, 1) := by decide +kernel
theorem dX0_isWaiting_24 : decode cX0_isWaiting 24 = .ok (.ireturn, 1) := by decide +kernel
theorem dX0_isReached_0 : decode cX0_isReached 0 = .ok (.aload_n 0, 1) := by decide +kernel
theorem dX0_isReached_1 : decode cX0_isReached 1 = .ok (.getfield 21, 3) := by decide +kernel
theorem dX0_isReached_4 : decode cX0_isReached 4 = .ok (.iload_n 1, 1) := by decide +kernel
theorem dX0_isReached_5 : decode cX0_isReached 5 = .ok (.iaload, 1) := by decide +kernel
theorem dX0_isReached_6 : decode cX0_isReached 6 = .ok (.iconst 1, 1) := by decide +kernel
theorem dX0_isReached_7 : decode cX0_isReached 7 = .ok (.if_icmp .ne 31, 3) := by decide +kernel
theorem dX0_isReached_10 : decode cX0_isReached 10 = .ok (.aload_n 0, 1) := by decide +kernel
theorem dX0_isReached_11 : decode cX0_isReached 11 = .ok (.getfield 21, 3) := by decide +kernel
theorem dX0_isReached_14 : decode cX0_isReached 14 = .ok (.iload_n 2, 1) := by decide +kernel
theorem dX0_isReached_15 : decode cX0_isReached 15 = .ok (.iaload, 1) := by decide +kernel
theorem dX0_isReached_16 : decode cX0_isReached 16 = .ok (.iconst 1, 1) := by decide +kernel
theorem dX0_isReached_17 : decode cX0_isReached 17 = .ok (.if_icmp .ne 21, 3) := by decide +kernel
theorem dX0_isReached_20 : decode cX0_isReached 20 = .ok (.aload_n 0, 1) := by decide +kernel
theorem dX0_isReached_21 : decode cX0_isReached 21 = .ok (.getfield 39, 3) := by decide +kernel
theorem dX0_isReached_24 : decode cX0_isReached 24 = .ok (.iload_n 1, 1) := by decide +kernel
theorem dX0_isReached_25 : decode cX0_isReached 25 = .ok (.iconst 5, 1) := by decide +kernel
theorem dX0_isReached_26 : decode cX0_isReached 26 = .ok (.imul, 1) := by decide +kernel
theorem dX0_isReached_27 : decode cX0_isReached 27 = .ok (.iload_n 2, 1) := by decide +kernel
theorem dX0_isReached_28 : decode cX0_isReached 28 = .ok (.iadd, 1) := by decide +kernel
theorem dX0_isReached_29 : decode cX0_isReached 29 = .ok (.iaload, 1) := by decide +kernel
theorem dX0_isReached_30 : decode cX0_isReached 30 = .ok (.iconst 1, 1) := by decide +kernel
theorem dX0_isReached_31 : decode cX0_isReached 31 = .ok (.if_icmp .ne 7, 3) := by decide +kernel
theorem dX0_isReached_34 : decode cX0_isReached 34 = .ok (.iconst 1, 1) := by decide +kernel
theorem dX0_isReached_35 : decode cX0_isReached 35 = .ok (.goto 4, 3) := by decide +kernel
theorem dX0_isReached_38 : decode cX0_isReached 38 = .ok (.iconst 0, 1) := by decide +kernel
theorem dX0_isReached_39 : decode cX0_isReached 39 = .ok (.ireturn, 1) := by decide +kernel
set_option maxRecDepth 20000 in
theorem ggX0_openRoads_X2_sumOf : GoodIn wsX0_openRoads wsX2_sumOf := goodIn_r _ [4] (by decide +kernel) (by decide +kernel)
set_option maxRecDepth 20000 in
theorem gX0_openRoads_X2_sumOf_n108 : GoodIn wsX0_openRoads (wsX2_sumOf) := ggX0_openRoads_X2_sumOf
theorem dX0_openRoads_0 : decode cX0_openRoads 0 = .ok (.aload_n 0, 1) := by decide +kernel
theorem dX0_openRoads_1 : decode cX0_openRoads 1 = .ok (.getfield 39, 3) := by decide +kernel
theorem dX0_openRoads_4 : decode cX0_openRoads 4 = .ok (.invokestatic 108, 3) := by decide +kernel
theorem dX0_openRoads_7 : decode cX0_openRoads 7 = .ok (.iconst 2, 1) := by decide +kernel
theorem dX0_openRoads_8 : decode cX0_openRoads 8 = .ok (.idiv, 1) := by decide +kernel
theorem dX0_openRoads_9 : decode cX0_openRoads 9 = .ok (.ireturn, 1) := by decide +kernel
theorem dX0_lastTerm_0 : decode cX0_lastTerm 0 = .ok (.aload_n 0, 1) := by decide +kernel
theorem dX0_lastTerm_1 : decode cX0_lastTerm 1 = .ok (.getfield 27, 3) := by decide +kernel
theorem dX0_lastTerm_4 : decode cX0_lastTerm 4 = .ok (.iload_n 1, 1) := by decide +kernel
theorem dX0_lastTerm_5 : decode cX0_lastTerm 5 = .ok (.iaload, 1) := by decide +kernel
theorem dX0_lastTerm_6 : decode cX0_lastTerm 6 = .ok (.ifCond .ne 7, 3) := by decide +kernel
theorem dX0_lastTerm_9 : decode cX0_lastTerm 9 = .ok (.iconst 0, 1) := by decide +kernel
theorem dX0_lastTerm_10 : decode cX0_lastTerm 10 = .ok (.goto 21, 3) := by decide +kernel
theorem dX0_lastTerm_13 : decode cX0_lastTerm 13 = .ok (.aload_n 0, 1) := by decide +kernel
theorem dX0_lastTerm_14 : decode cX0_lastTerm 14 = .ok (.getfield 33, 3) := by decide +kernel
theorem dX0_lastTerm_17 : decode cX0_lastTerm 17 = .ok (.iload_n 1, 1) := by decide +kernel
theorem dX0_lastTerm_18 : decode cX0_lastTerm 18 = .ok (.bipush 12, 2) := by decide +kernel
theorem dX0_lastTerm_20 : decode cX0_lastTerm 20 = .ok (.imul, 1) := by decide +kernel
theorem dX0_lastTerm_21 : decode cX0_lastTerm 21 = .ok (.aload_n 0, 1) := by decide +kernel
theorem dX0_lastTerm_22 : decode cX0_lastTerm 22 = .ok (.getfield 27, 3) := by decide +kernel
theorem dX0_lastTerm_25 : decode cX0_lastTerm 25 = .ok (.iload_n 1, 1) := by decide +kernel
theorem dX0_lastTerm_26 : decode cX0_lastTerm 26 = .ok (.iaload, 1) := by decide +kernel
theorem dX0_lastTerm_27 : decode cX0_lastTerm 27 = .ok (.iadd, 1) := by decide +kernel
theorem dX0_lastTerm_28 : decode cX0_lastTerm 28 = .ok (.iconst 1, 1) := by decide +kernel
theorem dX0_lastTerm_29 : decode cX0_lastTerm 29 = .ok (.isub, 1) := by decide +kernel
theorem dX0_lastTerm_30 : decode cX0_lastTerm 30 = .ok (.iaload, 1) := by decide +kernel
theorem dX0_lastTerm_31 : decode cX0_lastTerm 31 = .ok (.ireturn, 1) := by decide +kernel
set_option maxRecDepth 20000 in
theorem ggX0_isAsFar_X0_lastTerm : GoodIn wsX0_isAsFar wsX0_lastTerm := goodIn_r _ [6, 1, 7, 8, 9, 10, 11, 12, 13, 14, 15, 16, 17, 18, 19, 20, 21, 22, 23] (by decide +kernel) (by decide +kernel)
set_option maxRecDepth 20000 in
theorem gX0_isAsFar_X0_lastTerm : GoodIn wsX0_isAsFar (wsV RX0 93 RX0 yX0_lastTerm wsX0_lastTerm) := goodIn_app (goodIn_of _ (by decide +kernel)) ggX0_isAsFar_X0_lastTerm
theorem dX0_isAsFar_0 : decode cX0_isAsFar 0 = .ok (.aload_n 0, 1) := by decide +kernel
theorem dX0_isAsFar_1 : decode cX0_isAsFar 1 = .ok (.iload_n 1, 1) := by decide +kernel
theorem dX0_isAsFar_2 : decode cX0_isAsFar 2 = .ok (.invokevirtual 93, 3) := by decide +kernel
theorem dX0_isAsFar_5 : decode cX0_isAsFar 5 = .ok (.istore_n 3, 1) := by decide +kernel
theorem dX0_isAsFar_6 : decode cX0_isAsFar 6 = .ok (.aload_n 0, 1) := by decide +kernel
theorem dX0_isAsFar_7 : decode cX0_isAsFar 7 = .ok (.iload_n 2, 1) := by decide +kernel
theorem dX0_isAsFar_8 : decode cX0_isAsFar 8 = .ok (.invokevirtual 93, 3) := by decide +kernel
theorem dX0_isAsFar_11 : decode cX0_isAsFar 11 = .ok (.istore 4, 2) := by decide +kernel
theorem dX0_isAsFar_13 : decode cX0_isAsFar 13 = .ok (.iload_n 3, 1) := by decide +kernel
theorem dX0_isAsFar_14 : decode cX0_isAsFar 14 = .ok (.iload 4, 2) := by decide +kernel
theorem dX0_isAsFar_16 : decode cX0_isAsFar 16 = .ok (.if_icmp .gt 24, 3) := by decide +kernel
theorem dX0_isAsFar_19 : decode cX0_isAsFar 19 = .ok (.iload_n 3, 1) := by decide +kernel
theorem dX0_isAsFar_20 : decode cX0_isAsFar 20 = .ok (.iload 4, 2) := by decide +kernel
theorem dX0_isAsFar_22 : decode cX0_isAsFar 22 = .ok (.if_icmp .ne 22, 3) := by decide +kernel
theorem dX0_isAsFar_25 : decode cX0_isAsFar 25 = .ok (.aload_n 0, 1) := by decide +kernel
theorem dX0_isAsFar_26 : decode cX0_isAsFar 26 = .ok (.getfield 27, 3) := by decide +kernel
theorem dX0_isAsFar_29 : decode cX0_isAsFar 29 = .ok (.iload_n 1, 1) := by decide +kernel
theorem dX0_isAsFar_30 : decode cX0_isAsFar 30 = .ok (.iaload, 1) := by decide +kernel
theorem dX0_isAsFar_31 : decode cX0_isAsFar 31 = .ok (.aload_n 0, 1) := by decide +kernel
theorem dX0_isAsFar_32 : decode cX0_isAsFar 32 = .ok (.getfield 27, 3) := by decide +kernel
theorem dX0_isAsFar_35 : decode cX0_isAsFar 35 = .ok (.iload_n 2, 1) := by decide +kernel
theorem dX0_isAsFar_36 : decode cX0_isAsFar 36 = .ok (.iaload, 1) := by decide +kernel
theorem dX0_isAsFar_37 : decode cX0_isAsFar 37 = .ok (.if_icmp .lt 7, 3) := by decide +kernel
theorem dX0_isAsFar_40 : decode cX0_isAsFar 40 = .ok (.iconst 1, 1) := by decide +kernel
theorem dX0_isAsFar_41 : decode cX0_isAsFar 41 = .ok (.goto 4, 3) := by decide +kernel
theorem dX0_isAsFar_44 : decode cX0_isAsFar 44 = .ok (.iconst 0, 1) := by decide +kernel
theorem dX0_isAsFar_45 : decode cX0_isAsFar 45 = .ok (.ireturn, 1) := by decide +kernel
theorem dX0_pagesAlike_0 : decode cX0_pagesAlike 0 = .ok (.aload_n 0, 1) := by decide +kernel
theorem dX0_pagesAlike_1 : decode cX0_pagesAlike 1 = .ok (.getfield 27, 3) := by decide +kernel
theorem dX0_pagesAlike_4 : decode cX0_pagesAlike 4 = .ok (.iload_n 1, 1) := by decide +kernel
theorem dX0_pagesAlike_5 : decode cX0_pagesAlike 5 = .ok (.iaload, 1) := by decide +kernel
theorem dX0_pagesAlike_6 : decode cX0_pagesAlike 6 = .ok (.aload_n 0, 1) := by decide +kernel
theorem dX0_pagesAlike_7 : decode cX0_pagesAlike 7 = .ok (.getfield 27, 3) := by decide +kernel
theorem dX0_pagesAlike_10 : decode cX0_pagesAlike 10 = .ok (.iload_n 2, 1) := by decide +kernel
theorem dX0_pagesAlike_11 : decode cX0_pagesAlike 11 = .ok (.iaload, 1) := by decide +kernel
theorem dX0_pagesAlike_12 : decode cX0_pagesAlike 12 = .ok (.if_icmp .ge 12, 3) := by decide +kernel
theorem dX0_pagesAlike_15 : decode cX0_pagesAlike 15 = .ok (.aload_n 0, 1) := by decide +kernel
theorem dX0_pagesAlike_16 : decode cX0_pagesAlike 16 = .ok (.getfield 27, 3) := by decide +kernel
theorem dX0_pagesAlike_19 : decode cX0_pagesAlike 19 = .ok (.iload_n 1, 1) := by decide +kernel
theorem dX0_pagesAlike_20 : decode cX0_pagesAlike 20 = .ok (.iaload, 1) := by decide +kernel
theorem dX0_pagesAlike_21 : decode cX0_pagesAlike 21 = .ok (.goto 9, 3) := by decide +kernel
theorem dX0_pagesAlike_24 : decode cX0_pagesAlike 24 = .ok (.aload_n 0, 1) := by decide +kernel
theorem dX0_pagesAlike_25 : decode cX0_pagesAlike 25 = .ok (.getfield 27, 3) := by decide +kernel
theorem dX0_pagesAlike_28 : decode cX0_pagesAlike 28 = .ok (.iload_n 2, 1) := by decide +kernel
theorem dX0_pagesAlike_29 : decode cX0_pagesAlike 29 = .ok (.iaload, 1) := by decide +kernel
theorem dX0_pagesAlike_30 : decode cX0_pagesAlike 30 = .ok (.istore_n 3, 1) := by decide +kernel
theorem dX0_pagesAlike_31 : decode cX0_pagesAlike 31 = .ok (.iconst 0, 1) := by decide +kernel
theorem dX0_pagesAlike_32 : decode cX0_pagesAlike 32 = .ok (.istore 4, 2) := by decide +kernel
theorem dX0_pagesAlike_34 : decode cX0_pagesAlike 34 = .ok (.iload 4, 2) := by decide +kernel
theorem dX0_pagesAlike_36 : decode cX0_pagesAlike 36 = .ok (.iload_n 3, 1) := by decide +kernel
theorem dX0_pagesAlike_37 : decode cX0_pagesAlike 37 = .ok (.if_icmp .ge 64, 3) := by decide +kernel
theorem dX0_pagesAlike_40 : decode cX0_pagesAlike 40 = .ok (.iload_n 1, 1) := by decide +kernel
theorem dX0_pagesAlike_41 : decode cX0_pagesAlike 41 = .ok (.bipush 12, 2) := by decide +kernel
theorem dX0_pagesAlike_43 : decode cX0_pagesAlike 43 = .ok (.imul, 1) := by decide +kernel
theorem dX0_pagesAlike_44 : decode cX0_pagesAlike 44 = .ok (.iload 4, 2) := by decide +kernel
theorem dX0_pagesAlike_46 : decode cX0_pagesAlike 46 = .ok (.iadd, 1) := by decide +kernel
theorem dX0_pagesAlike_47 : decode cX0_pagesAlike 47 = .ok (.istore 5, 2) := by decide +kernel
theorem dX0_pagesAlike_49 : decode cX0_pagesAlike 49 = .ok (.iload_n 2, 1) := by decide +kernel
theorem dX0_pagesAlike_50 : decode cX0_pagesAlike 50 = .ok (.bipush 12, 2) := by decide +kernel
theorem dX0_pagesAlike_52 : decode cX0_pagesAlike 52 = .ok (.imul, 1) := by decide +kernel
theorem dX0_pagesAlike_53 : decode cX0_pagesAlike 53 = .ok (.iload 4, 2) := by decide +kernel
theorem dX0_pagesAlike_55 : decode cX0_pagesAlike 55 = .ok (.iadd, 1) := by decide +kernel
theorem dX0_pagesAlike_56 : decode cX0_pagesAlike 56 = .ok (.istore 6, 2) := by decide +kernel
theorem dX0_pagesAlike_58 : decode cX0_pagesAlike 58 = .ok (.aload_n 0, 1) := by decide +kernel
theorem dX0_pagesAlike_59 : decode cX0_pagesAlike 59 = .ok (.getfield 33, 3) := by decide +kernel
theorem dX0_pagesAlike_62 : decode cX0_pagesAlike 62 = .ok (.iload 5, 2) := by decide +kernel
theorem dX0_pagesAlike_64 : decode cX0_pagesAlike 64 = .ok (.iaload, 1) := by decide +kernel
theorem dX0_pagesAlike_65 : decode cX0_pagesAlike 65 = .ok (.aload_n 0, 1) := by decide +kernel
theorem dX0_pagesAlike_66 : decode cX0_pagesAlike 66 = .ok (.getfield 33, 3) := by decide +kernel
theorem dX0_pagesAlike_69 : decode cX0_pagesAlike 69 = .ok (.iload 6, 2) := by decide +kernel
theorem dX0_pagesAlike_71 : decode cX0_pagesAlike 71 = .ok (.iaload, 1) := by decide +kernel
theorem dX0_pagesAlike_72 : decode cX0_pagesAlike 72 = .ok (.if_icmp .ne 20, 3) := by decide +kernel
theorem dX0_pagesAlike_75 : decode cX0_pagesAlike 75 = .ok (.aload_n 0, 1) := by decide +kernel
theorem dX0_pagesAlike_76 : decode cX0_pagesAlike 76 = .ok (.getfield 36, 3) := by decide +kernel
theorem dX0_pagesAlike_79 : decode cX0_pagesAlike 79 = .ok (.iload 5, 2) := by decide +kernel
theorem dX0_pagesAlike_81 : decode cX0_pagesAlike 81 = .ok (.iaload, 1) := by decide +kernel
theorem dX0_pagesAlike_82 : decode cX0_pagesAlike 82 = .ok (.aload_n 0, 1) := by decide +kernel
theorem dX0_pagesAlike_83 : decode cX0_pagesAlike 83 = .ok (.getfield 36, 3) := by decide +kernel
theorem dX0_pagesAlike_86 : decode cX0_pagesAlike 86 = .ok (.iload 6, 2) := by decide +kernel
theorem dX0_pagesAlike_88 : decode cX0_pagesAlike 88 = .ok (.iaload, 1) := by decide +kernel
theorem dX0_pagesAlike_89 : decode cX0_pagesAlike 89 = .ok (.if_icmp .eq 6, 3) := by decide +kernel
theorem dX0_pagesAlike_92 : decode cX0_pagesAlike 92 = .ok (.iload 4, 2) := by decide +kernel
theorem dX0_pagesAlike_94 : decode cX0_pagesAlike 94 = .ok (.ireturn, 1) := by decide +kernel
theorem dX0_pagesAlike_95 : decode cX0_pagesAlike 95 = .ok (.iinc 4 1, 3) := by decide +kernel
theorem dX0_pagesAlike_98 : decode cX0_pagesAlike 98 = .ok (.goto (-64), 3) := by decide +kernel
theorem dX0_pagesAlike_101 : decode cX0_pagesAlike 101 = .ok (.iload_n 3, 1) := by decide +kernel
theorem dX0_pagesAlike_102 : decode cX0_pagesAlike 102 = .ok (.ireturn, 1) := by decide +kernel
theorem dX0_pagesAlikeByHalves_0 : decode cX0_pagesAlikeByHalves 0 = .ok (.iconst 0, 1) := by decide +kernel
theorem dX0_pagesAlikeByHalves_1 : decode cX0_pagesAlikeByHalves 1 = .ok (.istore_n 3, 1) := by decide +kernel
theorem dX0_pagesAlikeByHalves_2 : decode cX0_pagesAlikeByHalves 2 = .ok (.aload_n 0, 1) := by decide +kernel
theorem dX0_pagesAlikeByHalves_3 : decode cX0_pagesAlikeByHalves 3 = .ok (.getfield 27, 3) := by decide +kernel
theorem dX0_pagesAlikeByHalves_6 : decode cX0_pagesAlikeByHalves 6 = .ok (.iload_n 1, 1) := by decide +kernel
theorem dX0_pagesAlikeByHalves_7 : decode cX0_pagesAlikeByHalves 7 = .ok (.iaload, 1) := by decide +kernel
theorem dX0_pagesAlikeByHalves_8 : decode cX0_pagesAlikeByHalves 8 = .ok (.aload_n 0, 1) := by decide +kernel
theorem dX0_pagesAlikeByHalves_9 : decode cX0_pagesAlikeByHalves 9 = .ok (.getfield 27, 3) := by decide +kernel
theorem dX0_pagesAlikeByHalves_12 : decode cX0_pagesAlikeByHalves 12 = .ok (.iload_n 2, 1) := by decide +kernel
theorem dX0_pagesAlikeByHalves_13 : decode cX0_pagesAlikeByHalves 13 = .ok (.iaload, 1) := by decide +kernel
theorem dX0_pagesAlikeByHalves_14 : decode cX0_pagesAlikeByHalves 14 = .ok (.invokestatic 112, 3) := by decide +kernel
theorem dX0_pagesAlikeByHalves_17 : decode cX0_pagesAlikeByHalves 17 = .ok (.iconst 1, 1) := by decide +kernel
theorem dX0_pagesAlikeByHalves_18 : decode cX0_pagesAlikeByHalves 18 = .ok (.iadd, 1) := by decide +kernel
theorem dX0_pagesAlikeByHalves_19 : decode cX0_pagesAlikeByHalves 19 = .ok (.istore 4, 2) := by decide +kernel
theorem dX0_pagesAlikeByHalves_21 : decode cX0_pagesAlikeByHalves 21 = .ok (.iconst 0, 1) := by decide +kernel
theorem dX0_pagesAlikeByHalves_22 : decode cX0_pagesAlikeByHalves 22 = .ok (.istore 5, 2) := by decide +kernel
theorem dX0_pagesAlikeByHalves_24 : decode cX0_pagesAlikeByHalves 24 = .ok (.iload 5, 2) := by decide +kernel
theorem dX0_pagesAlikeByHalves_26 : decode cX0_pagesAlikeByHalves 26 = .ok (.bipush 12, 2) := by decide +kernel
theorem dX0_pagesAlikeByHalves_28 : decode cX0_pagesAlikeByHalves 28 = .ok (.if_icmp .ge 66, 3) := by decide +kernel
theorem dX0_pagesAlikeByHalves_31 : decode cX0_pagesAlikeByHalves 31 = .ok (.iload 4, 2) := by decide +kernel
theorem dX0_pagesAlikeByHalves_33 : decode cX0_pagesAlikeByHalves 33 = .ok (.iload_n 3, 1) := by decide +kernel
theorem dX0_pagesAlikeByHalves_34 : decode cX0_pagesAlikeByHalves 34 = .ok (.isub, 1) := by decide +kernel
theorem dX0_pagesAlikeByHalves_35 : decode cX0_pagesAlikeByHalves 35 = .ok (.iconst 1, 1) := by decide +kernel
theorem dX0_pagesAlikeByHalves_36 : decode cX0_pagesAlikeByHalves 36 = .ok (.if_icmp .le 58, 3) := by decide +kernel
theorem dX0_pagesAlikeByHalves_39 : decode cX0_pagesAlikeByHalves 39 = .ok (.iload_n 3, 1) := by decide +kernel
theorem dX0_pagesAlikeByHalves_40 : decode cX0_pagesAlikeByHalves 40 = .ok (.iload 4, 2) := by decide +kernel
theorem dX0_pagesAlikeByHalves_42 : decode cX0_pagesAlikeByHalves 42 = .ok (.iadd, 1) := by decide +kernel
theorem dX0_pagesAlikeByHalves_43 : decode cX0_pagesAlikeByHalves 43 = .ok (.iconst 2, 1) := by decide +kernel
theorem dX0_pagesAlikeByHalves_44 : decode cX0_pagesAlikeByHalves 44 = .ok (.idiv, 1) := by decide +kernel
theorem dX0_pagesAlikeByHalves_45 : decode cX0_pagesAlikeByHalves 45 = .ok (.istore 6, 2) := by decide +kernel
theorem dX0_pagesAlikeByHalves_47 : decode cX0_pagesAlikeByHalves 47 = .ok (.aload_n 0, 1) := by decide +kernel
theorem dX0_pagesAlikeByHalves_48 : decode cX0_pagesAlikeByHalves 48 = .ok (.getfield 33, 3) := by decide +kernel
theorem dX0_pagesAlikeByHalves_51 : decode cX0_pagesAlikeByHalves 51 = .ok (.iload_n 1, 1) := by decide +kernel
theorem dX0_pagesAlikeByHalves_52 : decode cX0_pagesAlikeByHalves 52 = .ok (.bipush 12, 2) := by decide +kernel
theorem dX0_pagesAlikeByHalves_54 : decode cX0_pagesAlikeByHalves 54 = .ok (.imul, 1) := by decide +kernel
theorem dX0_pagesAlikeByHalves_55 : decode cX0_pagesAlikeByHalves 55 = .ok (.iload 6, 2) := by decide +kernel
theorem dX0_pagesAlikeByHalves_57 : decode cX0_pagesAlikeByHalves 57 = .ok (.iadd, 1) := by decide +kernel
theorem dX0_pagesAlikeByHalves_58 : decode cX0_pagesAlikeByHalves 58 = .ok (.iconst 1, 1) := by decide +kernel
theorem dX0_pagesAlikeByHalves_59 : decode cX0_pagesAlikeByHalves 59 = .ok (.isub, 1) := by decide +kernel
theorem dX0_pagesAlikeByHalves_60 : decode cX0_pagesAlikeByHalves 60 = .ok (.iaload, 1) := by decide +kernel
theorem dX0_pagesAlikeByHalves_61 : decode cX0_pagesAlikeByHalves 61 = .ok (.aload_n 0, 1) := by decide +kernel
theorem dX0_pagesAlikeByHalves_62 : decode cX0_pagesAlikeByHalves 62 = .ok (.getfield 33, 3) := by decide +kernel
theorem dX0_pagesAlikeByHalves_65 : decode cX0_pagesAlikeByHalves 65 = .ok (.iload_n 2, 1) := by decide +kernel
theorem dX0_pagesAlikeByHalves_66 : decode cX0_pagesAlikeByHalves 66 = .ok (.bipush 12, 2) := by decide +kernel
theorem dX0_pagesAlikeByHalves_68 : decode cX0_pagesAlikeByHalves 68 = .ok (.imul, 1) := by decide +kernel
theorem dX0_pagesAlikeByHalves_69 : decode cX0_pagesAlikeByHalves 69 = .ok (.iload 6, 2) := by decide +kernel
theorem dX0_pagesAlikeByHalves_71 : decode cX0_pagesAlikeByHalves 71 = .ok (.iadd, 1) := by decide +kernel
theorem dX0_pagesAlikeByHalves_72 : decode cX0_pagesAlikeByHalves 72 = .ok (.iconst 1, 1) := by decide +kernel
theorem dX0_pagesAlikeByHalves_73 : decode cX0_pagesAlikeByHalves 73 = .ok (.isub, 1) := by decide +kernel
theorem dX0_pagesAlikeByHalves_74 : decode cX0_pagesAlikeByHalves 74 = .ok (.iaload, 1) := by decide +kernel
theorem dX0_pagesAlikeByHalves_75 : decode cX0_pagesAlikeByHalves 75 = .ok (.if_icmp .ne 9, 3) := by decide +kernel
theorem dX0_pagesAlikeByHalves_78 : decode cX0_pagesAlikeByHalves 78 = .ok (.iload 6, 2) := by decide +kernel
theorem dX0_pagesAlikeByHalves_80 : decode cX0_pagesAlikeByHalves 80 = .ok (.istore_n 3, 1) := by decide +kernel
theorem dX0_pagesAlikeByHalves_81 : decode cX0_pagesAlikeByHalves 81 = .ok (.goto 7, 3) := by decide +kernel
theorem dX0_pagesAlikeByHalves_84 : decode cX0_pagesAlikeByHalves 84 = .ok (.iload 6, 2) := by decide +kernel
theorem dX0_pagesAlikeByHalves_86 : decode cX0_pagesAlikeByHalves 86 = .ok (.istore 4, 2) := by decide +kernel
theorem dX0_pagesAlikeByHalves_88 : decode cX0_pagesAlikeByHalves 88 = .ok (.iinc 5 1, 3) := by decide +kernel
theorem dX0_pagesAlikeByHalves_91 : decode cX0_pagesAlikeByHalves 91 = .ok (.goto (-67), 3) := by decide +kernel
theorem dX0_pagesAlikeByHalves_94 : decode cX0_pagesAlikeByHalves 94 = .ok (.iload_n 3, 1) := by decide +kernel
theorem dX0_pagesAlikeByHalves_95 : decode cX0_pagesAlikeByHalves 95 = .ok (.ireturn, 1) := by decide +kernel
set_option maxRecDepth 20000 in
theorem ggX0_campsAlike_X0_pagesAlike : GoodIn wsX0_campsAlike wsX0_pagesAlike := goodIn_r _ [5, 6, 7, 8, 9, 10, 11, 12, 13, 14, 15, 16, 17, 18, 19, 20, 21, 22, 23, 24] (by decide +kernel) (by decide +kernel)
set_option maxRecDepth 20000 in
theorem gX0_campsAlike_X0_pagesAlike : GoodIn wsX0_campsAlike (wsV RX0 84 RX0 yX0_pagesAlike wsX0_pagesAlike) := goodIn_app (goodIn_of _ (by decide +kernel)) ggX0_campsAlike_X0_pagesAlike
theorem dX0_campsAlike_0 : decode cX0_campsAlike 0 = .ok (.iconst 0, 1) := by decide +kernel
theorem dX0_campsAlike_1 : decode cX0_campsAlike 1 = .ok (.istore_n 3, 1) := by decide +kernel
theorem dX0_campsAlike_2 : decode cX0_campsAlike 2 = .ok (.iconst 0, 1) := by decide +kernel
theorem dX0_campsAlike_3 : decode cX0_campsAlike 3 = .ok (.istore 4, 2) := by decide +kernel
theorem dX0_campsAlike_5 : decode cX0_campsAlike 5 = .ok (.iload 4, 2) := by decide +kernel
theorem dX0_campsAlike_7 : decode cX0_campsAlike 7 = .ok (.iconst 5, 1) := by decide +kernel
theorem dX0_campsAlike_8 : decode cX0_campsAlike 8 = .ok (.if_icmp .ge 23, 3) := by decide +kernel
theorem dX0_campsAlike_11 : decode cX0_campsAlike 11 = .ok (.aload_n 0, 1) := by decide +kernel
theorem dX0_campsAlike_12 : decode cX0_campsAlike 12 = .ok (.iload_n 1, 1) := by decide +kernel
theorem dX0_campsAlike_13 : decode cX0_campsAlike 13 = .ok (.iload 4, 2) := by decide +kernel
theorem dX0_campsAlike_15 : decode cX0_campsAlike 15 = .ok (.invokevirtual 84, 3) := by decide +kernel
theorem dX0_campsAlike_18 : decode cX0_campsAlike 18 = .ok (.iload_n 2, 1) := by decide +kernel
theorem dX0_campsAlike_19 : decode cX0_campsAlike 19 = .ok (.if_icmp .lt 6, 3) := by decide +kernel
theorem dX0_campsAlike_22 : decode cX0_campsAlike 22 = .ok (.iinc 3 1, 3) := by decide +kernel
theorem dX0_campsAlike_25 : decode cX0_campsAlike 25 = .ok (.iinc 4 1, 3) := by decide +kernel
theorem dX0_campsAlike_28 : decode cX0_campsAlike 28 = .ok (.goto (-23), 3) := by decide +kernel
theorem dX0_campsAlike_31 : decode cX0_campsAlike 31 = .ok (.iload_n 3, 1) := by decide +kernel
theorem dX0_campsAlike_32 : decode cX0_campsAlike 32 = .ok (.ireturn, 1) := by decide +kernel
theorem dX0_settledPagesWith_0 : decode cX0_settledPagesWith 0 = .ok (.iconst 0, 1) := by decide +kernel
theorem dX0_settledPagesWith_1 : decode cX0_settledPagesWith 1 = .ok (.istore_n 2, 1) := by decide +kernel
theorem dX0_settledPagesWith_2 : decode cX0_settledPagesWith 2 = .ok (.iconst 1, 1) := by decide +kernel
theorem dX0_settledPagesWith_3 : decode cX0_settledPagesWith 3 = .ok (.istore_n 3, 1) := by decide +kernel
theorem dX0_settledPagesWith_4 : decode cX0_settledPagesWith 4 = .ok (.iload_n 3, 1) := by decide +kernel
theorem dX0_settledPagesWith_5 : decode cX0_settledPagesWith 5 = .ok (.iconst 5, 1) := by decide +kernel
theorem dX0_settledPagesWith_6 : decode cX0_settledPagesWith 6 = .ok (.if_icmp .ge 26, 3) := by decide +kernel
theorem dX0_settledPagesWith_9 : decode cX0_settledPagesWith 9 = .ok (.aload_n 0, 1) := by decide +kernel
theorem dX0_settledPagesWith_10 : decode cX0_settledPagesWith 10 = .ok (.getfield 30, 3) := by decide +kernel
theorem dX0_settledPagesWith_13 : decode cX0_settledPagesWith 13 = .ok (.iload_n 3, 1) := by decide +kernel
theorem dX0_settledPagesWith_14 : decode cX0_settledPagesWith 14 = .ok (.iaload, 1) := by decide +kernel
theorem dX0_settledPagesWith_15 : decode cX0_settledPagesWith 15 = .ok (.aload_n 0, 1) := by decide +kernel
theorem dX0_settledPagesWith_16 : decode cX0_settledPagesWith 16 = .ok (.getfield 30, 3) := by decide +kernel
theorem dX0_settledPagesWith_19 : decode cX0_settledPagesWith 19 = .ok (.iload_n 2, 1) := by decide +kernel
theorem dX0_settledPagesWith_20 : decode cX0_settledPagesWith 20 = .ok (.iaload, 1) := by decide +kernel
theorem dX0_settledPagesWith_21 : decode cX0_settledPagesWith 21 = .ok (.if_icmp .le 5, 3) := by decide +kernel
theorem dX0_settledPagesWith_24 : decode cX0_settledPagesWith 24 = .ok (.iload_n 3, 1) := by decide +kernel
theorem dX0_settledPagesWith_25 : decode cX0_settledPagesWith 25 = .ok (.istore_n 2, 1) := by decide +kernel
theorem dX0_settledPagesWith_26 : decode cX0_settledPagesWith 26 = .ok (.iinc 3 1, 3) := by decide +kernel
theorem dX0_settledPagesWith_29 : decode cX0_settledPagesWith 29 = .ok (.goto (-25), 3) := by decide +kernel
theorem dX0_settledPagesWith_32 : decode cX0_settledPagesWith 32 = .ok (.iconst 0, 1) := by decide +kernel
theorem dX0_settledPagesWith_33 : decode cX0_settledPagesWith 33 = .ok (.istore_n 3, 1) := by decide +kernel
theorem dX0_settledPagesWith_34 : decode cX0_settledPagesWith 34 = .ok (.iconst 0, 1) := by decide +kernel
theorem dX0_settledPagesWith_35 : decode cX0_settledPagesWith 35 = .ok (.istore 4, 2) := by decide +kernel
theorem dX0_settledPagesWith_37 : decode cX0_settledPagesWith 37 = .ok (.iload 4, 2) := by decide +kernel
theorem dX0_settledPagesWith_39 : decode cX0_settledPagesWith 39 = .ok (.aload_n 0, 1) := by decide +kernel
theorem dX0_settledPagesWith_40 : decode cX0_settledPagesWith 40 = .ok (.getfield 30, 3) := by decide +kernel
theorem dX0_settledPagesWith_43 : decode cX0_settledPagesWith 43 = .ok (.iload_n 2, 1) := by decide +kernel
theorem dX0_settledPagesWith_44 : decode cX0_settledPagesWith 44 = .ok (.iaload, 1) := by decide +kernel
theorem dX0_settledPagesWith_45 : decode cX0_settledPagesWith 45 = .ok (.if_icmp .ge 28, 3) := by decide +kernel
theorem dX0_settledPagesWith_48 : decode cX0_settledPagesWith 48 = .ok (.aload_n 0, 1) := by decide +kernel
theorem dX0_settledPagesWith_49 : decode cX0_settledPagesWith 49 = .ok (.getfield 36, 3) := by decide +kernel
theorem dX0_settledPagesWith_52 : decode cX0_settledPagesWith 52 = .ok (.iload_n 2, 1) := by decide +kernel
theorem dX0_settledPagesWith_53 : decode cX0_settledPagesWith 53 = .ok (.bipush 12, 2) := by decide +kernel
theorem dX0_settledPagesWith_55 : decode cX0_settledPagesWith 55 = .ok (.imul, 1) := by decide +kernel
theorem dX0_settledPagesWith_56 : decode cX0_settledPagesWith 56 = .ok (.iload 4, 2) := by decide +kernel
theorem dX0_settledPagesWith_58 : decode cX0_settledPagesWith 58 = .ok (.iadd, 1) := by decide +kernel
theorem dX0_settledPagesWith_59 : decode cX0_settledPagesWith 59 = .ok (.iaload, 1) := by decide +kernel
theorem dX0_settledPagesWith_60 : decode cX0_settledPagesWith 60 = .ok (.iload_n 1, 1) := by decide +kernel
theorem dX0_settledPagesWith_61 : decode cX0_settledPagesWith 61 = .ok (.if_icmp .ne 6, 3) := by decide +kernel
theorem dX0_settledPagesWith_64 : decode cX0_settledPagesWith 64 = .ok (.iinc 3 1, 3) := by decide +kernel
theorem dX0_settledPagesWith_67 : decode cX0_settledPagesWith 67 = .ok (.iinc 4 1, 3) := by decide +kernel
theorem dX0_settledPagesWith_70 : decode cX0_settledPagesWith 70 = .ok (.goto (-33), 3) := by decide +kernel
theorem dX0_settledPagesWith_73 : decode cX0_settledPagesWith 73 = .ok (.iload_n 3, 1) := by decide +kernel
theorem dX0_settledPagesWith_74 : decode cX0_settledPagesWith 74 = .ok (.ireturn, 1) := by decide +kernel
theorem dX0_greatestCaptain_0 : decode cX0_greatestCaptain 0 = .ok (.bipush (-4), 2) := by decide +kernel
theorem dX0_greatestCaptain_2 : decode cX0_greatestCaptain 2 = .ok (.istore_n 1, 1) := by decide +kernel
theorem dX0_greatestCaptain_3 : decode cX0_greatestCaptain 3 = .ok (.iconst (-1), 1) := by decide +kernel
theorem dX0_greatestCaptain_4 : decode cX0_greatestCaptain 4 = .ok (.istore_n 2, 1) := by decide +kernel
theorem dX0_greatestCaptain_5 : decode cX0_greatestCaptain 5 = .ok (.iconst 0, 1) := by decide +kernel
theorem dX0_greatestCaptain_6 : decode cX0_greatestCaptain 6 = .ok (.istore_n 3, 1) := by decide +kernel
theorem dX0_greatestCaptain_7 : decode cX0_greatestCaptain 7 = .ok (.iload_n 3, 1) := by decide +kernel
theorem dX0_greatestCaptain_8 : decode cX0_greatestCaptain 8 = .ok (.iconst 5, 1) := by decide +kernel
theorem dX0_greatestCaptain_9 : decode cX0_greatestCaptain 9 = .ok (.if_icmp .ge 38, 3) := by decide +kernel
theorem dX0_greatestCaptain_12 : decode cX0_greatestCaptain 12 = .ok (.aload_n 0, 1) := by decide +kernel
theorem dX0_greatestCaptain_13 : decode cX0_greatestCaptain 13 = .ok (.getfield 18, 3) := by decide +kernel
theorem dX0_greatestCaptain_16 : decode cX0_greatestCaptain 16 = .ok (.iload_n 3, 1) := by decide +kernel
theorem dX0_greatestCaptain_17 : decode cX0_greatestCaptain 17 = .ok (.iaload, 1) := by decide +kernel
theorem dX0_greatestCaptain_18 : decode cX0_greatestCaptain 18 = .ok (.iconst 1, 1) := by decide +kernel
theorem dX0_greatestCaptain_19 : decode cX0_greatestCaptain 19 = .ok (.if_icmp .ne 22, 3) := by decide +kernel
theorem dX0_greatestCaptain_22 : decode cX0_greatestCaptain 22 = .ok (.aload_n 0, 1) := by decide +kernel
theorem dX0_greatestCaptain_23 : decode cX0_greatestCaptain 23 = .ok (.getfield 9, 3) := by decide +kernel
theorem dX0_greatestCaptain_26 : decode cX0_greatestCaptain 26 = .ok (.iload_n 3, 1) := by decide +kernel
theorem dX0_greatestCaptain_27 : decode cX0_greatestCaptain 27 = .ok (.iaload, 1) := by decide +kernel
theorem dX0_greatestCaptain_28 : decode cX0_greatestCaptain 28 = .ok (.iload_n 2, 1) := by decide +kernel
theorem dX0_greatestCaptain_29 : decode cX0_greatestCaptain 29 = .ok (.if_icmp .le 12, 3) := by decide +kernel
theorem dX0_greatestCaptain_32 : decode cX0_greatestCaptain 32 = .ok (.iload_n 3, 1) := by decide +kernel
theorem dX0_greatestCaptain_33 : decode cX0_greatestCaptain 33 = .ok (.istore_n 1, 1) := by decide +kernel
theorem dX0_greatestCaptain_34 : decode cX0_greatestCaptain 34 = .ok (.aload_n 0, 1) := by decide +kernel
theorem dX0_greatestCaptain_35 : decode cX0_greatestCaptain 35 = .ok (.getfield 9, 3) := by decide +kernel
theorem dX0_greatestCaptain_38 : decode cX0_greatestCaptain 38 = .ok (.iload_n 3, 1) := by decide +kernel
theorem dX0_greatestCaptain_39 : decode cX0_greatestCaptain 39 = .ok (.iaload, 1) := by decide +kernel
theorem dX0_greatestCaptain_40 : decode cX0_greatestCaptain 40 = .ok (.istore_n 2, 1) := by decide +kernel
theorem dX0_greatestCaptain_41 : decode cX0_greatestCaptain 41 = .ok (.iinc 3 1, 3) := by decide +kernel
theorem dX0_greatestCaptain_44 : decode cX0_greatestCaptain 44 = .ok (.goto (-37), 3) := by decide +kernel
theorem dX0_greatestCaptain_47 : decode cX0_greatestCaptain 47 = .ok (.iload_n 1, 1) := by decide +kernel
theorem dX0_greatestCaptain_48 : decode cX0_greatestCaptain 48 = .ok (.ireturn, 1) := by decide +kernel
set_option maxRecDepth 20000 in
theorem ggX0_hasForemostCaptain_X0_greatestCaptain : GoodIn wsX0_hasForemostCaptain wsX0_greatestCaptain := goodIn_r _ [7, 8, 2, 9, 10, 11, 12, 13, 14, 15, 16, 17, 18, 19, 20, 21, 22, 23, 24] (by decide +kernel) (by decide +kernel)
set_option maxRecDepth 20000 in
theorem gX0_hasForemostCaptain_X0_greatestCaptain : GoodIn wsX0_hasForemostCaptain (wsV RX0 115 RX0 yX0_greatestCaptain wsX0_greatestCaptain) := goodIn_app (goodIn_of _ (by decide +kernel)) ggX0_hasForemostCaptain_X0_greatestCaptain
theorem dX0_hasForemostCaptain_0 : decode cX0_hasForemostCaptain 0 = .ok (.aload_n 0, 1) := by decide +kernel
theorem dX0_hasForemostCaptain_1 : decode cX0_hasForemostCaptain 1 = .ok (.invokevirtual 115, 3) := by decide +kernel
theorem dX0_hasForemostCaptain_4 : decode cX0_hasForemostCaptain 4 = .ok (.istore_n 1, 1) := by decide +kernel
theorem dX0_hasForemostCaptain_5 : decode cX0_hasForemostCaptain 5 = .ok (.iload_n 1, 1) := by decide +kernel
theorem dX0_hasForemostCaptain_6 : decode cX0_hasForemostCaptain 6 = .ok (.bipush (-4), 2) := by decide +kernel
theorem dX0_hasForemostCaptain_8 : decode cX0_hasForemostCaptain 8 = .ok (.if_icmp .ne 5, 3) := by decide +kernel
theorem dX0_hasForemostCaptain_11 : decode cX0_hasForemostCaptain 11 = .ok (.iconst 0, 1) := by decide +kernel
theorem dX0_hasForemostCaptain_12 : decode cX0_hasForemostCaptain 12 = .ok (.ireturn, 1) := by decide +kernel
theorem dX0_hasForemostCaptain_13 : decode cX0_hasForemostCaptain 13 = .ok (.iconst 0, 1) := by decide +kernel
theorem dX0_hasForemostCaptain_14 : decode cX0_hasForemostCaptain 14 = .ok (.istore_n 2, 1) := by decide +kernel
theorem dX0_hasForemostCaptain_15 : decode cX0_hasForemostCaptain 15 = .ok (.iload_n 2, 1) := by decide +kernel
theorem dX0_hasForemostCaptain_16 : decode cX0_hasForemostCaptain 16 = .ok (.iconst 5, 1) := by decide +kernel
theorem dX0_hasForemostCaptain_17 : decode cX0_hasForemostCaptain 17 = .ok (.if_icmp .ge 36, 3) := by decide +kernel
theorem dX0_hasForemostCaptain_20 : decode cX0_hasForemostCaptain 20 = .ok (.aload_n 0, 1) := by decide +kernel
theorem dX0_hasForemostCaptain_21 : decode cX0_hasForemostCaptain 21 = .ok (.getfield 21, 3) := by decide +kernel
theorem dX0_hasForemostCaptain_24 : decode cX0_hasForemostCaptain 24 = .ok (.iload_n 2, 1) := by decide +kernel
theorem dX0_hasForemostCaptain_25 : decode cX0_hasForemostCaptain 25 = .ok (.iaload, 1) := by decide +kernel
theorem dX0_hasForemostCaptain_26 : decode cX0_hasForemostCaptain 26 = .ok (.iconst 1, 1) := by decide +kernel
theorem dX0_hasForemostCaptain_27 : decode cX0_hasForemostCaptain 27 = .ok (.if_icmp .ne 20, 3) := by decide +kernel
theorem dX0_hasForemostCaptain_30 : decode cX0_hasForemostCaptain 30 = .ok (.aload_n 0, 1) := by decide +kernel
theorem dX0_hasForemostCaptain_31 : decode cX0_hasForemostCaptain 31 = .ok (.getfield 9, 3) := by decide +kernel
theorem dX0_hasForemostCaptain_34 : decode cX0_hasForemostCaptain 34 = .ok (.iload_n 2, 1) := by decide +kernel
theorem dX0_hasForemostCaptain_35 : decode cX0_hasForemostCaptain 35 = .ok (.iaload, 1) := by decide +kernel
theorem dX0_hasForemostCaptain_36 : decode cX0_hasForemostCaptain 36 = .ok (.aload_n 0, 1) := by decide +kernel
theorem dX0_hasForemostCaptain_37 : decode cX0_hasForemostCaptain 37 = .ok (.getfield 9, 3) := by decide +kernel
theorem dX0_hasForemostCaptain_40 : decode cX0_hasForemostCaptain 40 = .ok (.iload_n 1, 1) := by decide +kernel
theorem dX0_hasForemostCaptain_41 : decode cX0_hasForemostCaptain 41 = .ok (.iaload, 1) := by decide +kernel
theorem dX0_hasForemostCaptain_42 : decode cX0_hasForemostCaptain 42 = .ok (.if_icmp .le 5, 3) := by decide +kernel
theorem dX0_hasForemostCaptain_45 : decode cX0_hasForemostCaptain 45 = .ok (.iconst 0, 1) := by decide +kernel
theorem dX0_hasForemostCaptain_46 : decode cX0_hasForemostCaptain 46 = .ok (.ireturn, 1) := by decide +kernel
theorem dX0_hasForemostCaptain_47 : decode cX0_hasForemostCaptain 47 = .ok (.iinc 2 1, 3) := by decide +kernel
theorem dX0_hasForemostCaptain_50 : decode cX0_hasForemostCaptain 50 = .ok (.goto (-35), 3) := by decide +kernel
theorem dX0_hasForemostCaptain_53 : decode cX0_hasForemostCaptain 53 = .ok (.iconst 1, 1) := by decide +kernel
theorem dX0_hasForemostCaptain_54 : decode cX0_hasForemostCaptain 54 = .ok (.ireturn, 1) := by decide +kernel
set_option maxRecDepth 20000 in
theorem ggX0_campsAheadOf_X0_isAhead : GoodIn wsX0_campsAheadOf wsX0_isAhead := goodIn_r _ [5, 6, 7, 8, 9, 4, 10, 11, 12, 13, 14, 15, 16, 17, 18, 19, 20, 21, 22, 23, 24, 25, 26, 27, 28, 29, 30, 31, 32] (by decide +kernel) (by decide +kernel)
set_option maxRecDepth 20000 in
theorem gX0_campsAheadOf_X0_isAhead : GoodIn wsX0_campsAheadOf (wsV RX0 119 RX0 yX0_isAhead wsX0_isAhead) := goodIn_app (goodIn_of _ (by decide +kernel)) ggX0_campsAheadOf_X0_isAhead
theorem dX0_campsAheadOf_0 : decode cX0_campsAheadOf 0 = .ok (.iconst 0, 1) := by decide +kernel
theorem dX0_campsAheadOf_1 : decode cX0_campsAheadOf 1 = .ok (.istore_n 2, 1) := by decide +kernel
theorem dX0_campsAheadOf_2 : decode cX0_campsAheadOf 2 = .ok (.iconst 0, 1) := by decide +kernel
theorem dX0_campsAheadOf_3 : decode cX0_campsAheadOf 3 = .ok (.istore_n 3, 1) := by decide +kernel
theorem dX0_campsAheadOf_4 : decode cX0_campsAheadOf 4 = .ok (.iload_n 3, 1) := by decide +kernel
theorem dX0_campsAheadOf_5 : decode cX0_campsAheadOf 5 = .ok (.iconst 5, 1) := by decide +kernel
theorem dX0_campsAheadOf_6 : decode cX0_campsAheadOf 6 = .ok (.if_icmp .ge 21, 3) := by decide +kernel
theorem dX0_campsAheadOf_9 : decode cX0_campsAheadOf 9 = .ok (.aload_n 0, 1) := by decide +kernel
theorem dX0_campsAheadOf_10 : decode cX0_campsAheadOf 10 = .ok (.iload_n 3, 1) := by decide +kernel
theorem dX0_campsAheadOf_11 : decode cX0_campsAheadOf 11 = .ok (.iload_n 1, 1) := by decide +kernel
theorem dX0_campsAheadOf_12 : decode cX0_campsAheadOf 12 = .ok (.invokevirtual 119, 3) := by decide +kernel
theorem dX0_campsAheadOf_15 : decode cX0_campsAheadOf 15 = .ok (.ifCond .eq 6, 3) := by decide +kernel
theorem dX0_campsAheadOf_18 : decode cX0_campsAheadOf 18 = .ok (.iinc 2 1, 3) := by decide +kernel
theorem dX0_campsAheadOf_21 : decode cX0_campsAheadOf 21 = .ok (.iinc 3 1, 3) := by decide +kernel
theorem dX0_campsAheadOf_24 : decode cX0_campsAheadOf 24 = .ok (.goto (-20), 3) := by decide +kernel
theorem dX0_campsAheadOf_27 : decode cX0_campsAheadOf 27 = .ok (.iload_n 2, 1) := by decide +kernel
theorem dX0_campsAheadOf_28 : decode cX0_campsAheadOf 28 = .ok (.ireturn, 1) := by decide +kernel
set_option maxRecDepth 20000 in
theorem ggX0_isAhead_X0_isAsFar : GoodIn wsX0_isAhead wsX0_isAsFar := goodIn_r _ [6, 7, 8, 9, 10, 5, 11, 12, 13, 14, 15, 16, 17, 18, 19, 20, 21, 22, 23, 24, 25, 26, 27, 28] (by decide +kernel) (by decide +kernel)
set_option maxRecDepth 20000 in
theorem gX0_isAhead_X0_isAsFar : GoodIn wsX0_isAhead (wsV RX0 75 RX0 yX0_isAsFar wsX0_isAsFar) := goodIn_app (goodIn_of _ (by decide +kernel)) ggX0_isAhead_X0_isAsFar
theorem dX0_isAhead_0 : decode cX0_isAhead 0 = .ok (.aload_n 0, 1) := by decide +kernel
theorem dX0_isAhead_1 : decode cX0_isAhead 1 = .ok (.iload_n 1, 1) := by decide +kernel
theorem dX0_isAhead_2 : decode cX0_isAhead 2 = .ok (.iload_n 2, 1) := by decide +kernel
theorem dX0_isAhead_3 : decode cX0_isAhead 3 = .ok (.invokevirtual 75, 3) := by decide +kernel
theorem dX0_isAhead_6 : decode cX0_isAhead 6 = .ok (.istore_n 3, 1) := by decide +kernel
theorem dX0_isAhead_7 : decode cX0_isAhead 7 = .ok (.iload_n 3, 1) := by decide +kernel
theorem dX0_isAhead_8 : decode cX0_isAhead 8 = .ok (.aload_n 0, 1) := by decide +kernel
theorem dX0_isAhead_9 : decode cX0_isAhead 9 = .ok (.iload_n 2, 1) := by decide +kernel
theorem dX0_isAhead_10 : decode cX0_isAhead 10 = .ok (.iload_n 1, 1) := by decide +kernel
theorem dX0_isAhead_11 : decode cX0_isAhead 11 = .ok (.invokevirtual 75, 3) := by decide +kernel
theorem dX0_isAhead_14 : decode cX0_isAhead 14 = .ok (.if_icmp .eq 5, 3) := by decide +kernel
theorem dX0_isAhead_17 : decode cX0_isAhead 17 = .ok (.iload_n 3, 1) := by decide +kernel
theorem dX0_isAhead_18 : decode cX0_isAhead 18 = .ok (.ireturn, 1) := by decide +kernel
theorem dX0_isAhead_19 : decode cX0_isAhead 19 = .ok (.aload_n 0, 1) := by decide +kernel
theorem dX0_isAhead_20 : decode cX0_isAhead 20 = .ok (.getfield 30, 3) := by decide +kernel
theorem dX0_isAhead_23 : decode cX0_isAhead 23 = .ok (.iload_n 1, 1) := by decide +kernel
theorem dX0_isAhead_24 : decode cX0_isAhead 24 = .ok (.iaload, 1) := by decide +kernel
theorem dX0_isAhead_25 : decode cX0_isAhead 25 = .ok (.aload_n 0, 1) := by decide +kernel
theorem dX0_isAhead_26 : decode cX0_isAhead 26 = .ok (.getfield 30, 3) := by decide +kernel
theorem dX0_isAhead_29 : decode cX0_isAhead 29 = .ok (.iload_n 2, 1) := by decide +kernel
theorem dX0_isAhead_30 : decode cX0_isAhead 30 = .ok (.iaload, 1) := by decide +kernel
theorem dX0_isAhead_31 : decode cX0_isAhead 31 = .ok (.if_icmp .eq 24, 3) := by decide +kernel
theorem dX0_isAhead_34 : decode cX0_isAhead 34 = .ok (.aload_n 0, 1) := by decide +kernel
theorem dX0_isAhead_35 : decode cX0_isAhead 35 = .ok (.getfield 30, 3) := by decide +kernel
theorem dX0_isAhead_38 : decode cX0_isAhead 38 = .ok (.iload_n 1, 1) := by decide +kernel
theorem dX0_isAhead_39 : decode cX0_isAhead 39 = .ok (.iaload, 1) := by decide +kernel
theorem dX0_isAhead_40 : decode cX0_isAhead 40 = .ok (.aload_n 0, 1) := by decide +kernel
theorem dX0_isAhead_41 : decode cX0_isAhead 41 = .ok (.getfield 30, 3) := by decide +kernel
theorem dX0_isAhead_44 : decode cX0_isAhead 44 = .ok (.iload_n 2, 1) := by decide +kernel
theorem dX0_isAhead_45 : decode cX0_isAhead 45 = .ok (.iaload, 1) := by decide +kernel
theorem dX0_isAhead_46 : decode cX0_isAhead 46 = .ok (.if_icmp .le 7, 3) := by decide +kernel
theorem dX0_isAhead_49 : decode cX0_isAhead 49 = .ok (.iconst 1, 1) := by decide +kernel
theorem dX0_isAhead_50 : decode cX0_isAhead 50 = .ok (.goto 4, 3) := by decide +kernel
theorem dX0_isAhead_53 : decode cX0_isAhead 53 = .ok (.iconst 0, 1) := by decide +kernel
theorem dX0_isAhead_54 : decode cX0_isAhead 54 = .ok (.ireturn, 1) := by decide +kernel
theorem dX0_isAhead_55 : decode cX0_isAhead 55 = .ok (.iload_n 1, 1) := by decide +kernel
theorem dX0_isAhead_56 : decode cX0_isAhead 56 = .ok (.iload_n 2, 1) := by decide +kernel
theorem dX0_isAhead_57 : decode cX0_isAhead 57 = .ok (.if_icmp .ge 7, 3) := by decide +kernel
theorem dX0_isAhead_60 : decode cX0_isAhead 60 = .ok (.iconst 1, 1) := by decide +kernel
theorem dX0_isAhead_61 : decode cX0_isAhead 61 = .ok (.goto 4, 3) := by decide +kernel
theorem dX0_isAhead_64 : decode cX0_isAhead 64 = .ok (.iconst 0, 1) := by decide +kernel
theorem dX0_isAhead_65 : decode cX0_isAhead 65 = .ok (.ireturn, 1) := by decide +kernel
set_option maxRecDepth 20000 in
theorem ggX0_isAllWell_X0_campsAlike : GoodIn wsX0_isAllWell wsX0_campsAlike := goodIn_r _ [6, 7, 8, 9, 5, 10, 11, 12, 13, 28, 29, 30, 31, 32, 33, 34, 35, 36, 37, 38, 39, 40, 41, 42, 43] (by decide +kernel) (by decide +kernel)
set_option maxRecDepth 20000 in
theorem gX0_isAllWell_X0_campsAlike : GoodIn wsX0_isAllWell (wsV RX0 122 RX0 yX0_campsAlike wsX0_campsAlike) := goodIn_app (goodIn_of _ (by decide +kernel)) ggX0_isAllWell_X0_campsAlike
set_option maxRecDepth 20000 in
theorem ggX0_isAllWell_X0_areWellTogether : GoodIn wsX0_isAllWell wsX0_areWellTogether := goodIn_r _ [17, 1, 18, 19, 20, 21, 22, 23, 7, 8, 9, 5, 10, 11, 12, 13, 24, 25, 26, 27, 28, 29, 30, 31, 32, 33, 34, 35, 36, 37, 38, 39, 40, 41, 42, 43] (by decide +kernel) (by decide +kernel)
set_option maxRecDepth 20000 in
theorem gX0_isAllWell_X0_areWellTogether : GoodIn wsX0_isAllWell (wsV RX0 125 RX0 yX0_areWellTogether wsX0_areWellTogether) := goodIn_app (goodIn_of _ (by decide +kernel)) ggX0_isAllWell_X0_areWellTogether
theorem dX0_isAllWell_0 : decode cX0_isAllWell 0 = .ok (.iconst 0, 1) := by decide +kernel
theorem dX0_isAllWell_1 : decode cX0_isAllWell 1 = .ok (.istore_n 1, 1) := by decide +kernel
theorem dX0_isAllWell_2 : decode cX0_isAllWell 2 = .ok (.iload_n 1, 1) := by decide +kernel
theorem dX0_isAllWell_3 : decode cX0_isAllWell 3 = .ok (.iconst 5, 1) := by decide +kernel
theorem dX0_isAllWell_4 : decode cX0_isAllWell 4 = .ok (.if_icmp .ge 50, 3) := by decide +kernel
theorem dX0_isAllWell_7 : decode cX0_isAllWell 7 = .ok (.aload_n 0, 1) := by decide +kernel
theorem dX0_isAllWell_8 : decode cX0_isAllWell 8 = .ok (.iload_n 1, 1) := by decide +kernel
theorem dX0_isAllWell_9 : decode cX0_isAllWell 9 = .ok (.aload_n 0, 1) := by decide +kernel
theorem dX0_isAllWell_10 : decode cX0_isAllWell 10 = .ok (.getfield 30, 3) := by decide +kernel
theorem dX0_isAllWell_13 : decode cX0_isAllWell 13 = .ok (.iload_n 1, 1) := by decide +kernel
theorem dX0_isAllWell_14 : decode cX0_isAllWell 14 = .ok (.iaload, 1) := by decide +kernel
theorem dX0_isAllWell_15 : decode cX0_isAllWell 15 = .ok (.invokevirtual 122, 3) := by decide +kernel
theorem dX0_isAllWell_18 : decode cX0_isAllWell 18 = .ok (.iconst 3, 1) := by decide +kernel
theorem dX0_isAllWell_19 : decode cX0_isAllWell 19 = .ok (.if_icmp .ge 5, 3) := by decide +kernel
theorem dX0_isAllWell_22 : decode cX0_isAllWell 22 = .ok (.iconst 0, 1) := by decide +kernel
theorem dX0_isAllWell_23 : decode cX0_isAllWell 23 = .ok (.ireturn, 1) := by decide +kernel
theorem dX0_isAllWell_24 : decode cX0_isAllWell 24 = .ok (.iconst 0, 1) := by decide +kernel
theorem dX0_isAllWell_25 : decode cX0_isAllWell 25 = .ok (.istore_n 2, 1) := by decide +kernel
theorem dX0_isAllWell_26 : decode cX0_isAllWell 26 = .ok (.iload_n 2, 1) := by decide +kernel
theorem dX0_isAllWell_27 : decode cX0_isAllWell 27 = .ok (.iload_n 1, 1) := by decide +kernel
theorem dX0_isAllWell_28 : decode cX0_isAllWell 28 = .ok (.if_icmp .ge 20, 3) := by decide +kernel
theorem dX0_isAllWell_31 : decode cX0_isAllWell 31 = .ok (.aload_n 0, 1) := by decide +kernel
theorem dX0_isAllWell_32 : decode cX0_isAllWell 32 = .ok (.iload_n 1, 1) := by decide +kernel
theorem dX0_isAllWell_33 : decode cX0_isAllWell 33 = .ok (.iload_n 2, 1) := by decide +kernel
theorem dX0_isAllWell_34 : decode cX0_isAllWell 34 = .ok (.invokevirtual 125, 3) := by decide +kernel
theorem dX0_isAllWell_37 : decode cX0_isAllWell 37 = .ok (.ifCond .ne 5, 3) := by decide +kernel
theorem dX0_isAllWell_40 : decode cX0_isAllWell 40 = .ok (.iconst 0, 1) := by decide +kernel
theorem dX0_isAllWell_41 : decode cX0_isAllWell 41 = .ok (.ireturn, 1) := by decide +kernel
theorem dX0_isAllWell_42 : decode cX0_isAllWell 42 = .ok (.iinc 2 1, 3) := by decide +kernel
theorem dX0_isAllWell_45 : decode cX0_isAllWell 45 = .ok (.goto (-19), 3) := by decide +kernel
theorem dX0_isAllWell_48 : decode cX0_isAllWell 48 = .ok (.iinc 1 1, 3) := by decide +kernel
theorem dX0_isAllWell_51 : decode cX0_isAllWell 51 = .ok (.goto (-49), 3) := by decide +kernel
theorem dX0_isAllWell_54 : decode cX0_isAllWell 54 = .ok (.iconst 1, 1) := by decide +kernel
theorem dX0_isAllWell_55 : decode cX0_isAllWell 55 = .ok (.ireturn, 1) := by decide +kernel
set_option maxRecDepth 20000 in
theorem ggX0_areWellTogether_X0_pagesAlike : GoodIn wsX0_areWellTogether wsX0_pagesAlike := goodIn_r _ [12, 13, 14, 15, 20, 21, 22, 23, 24, 25, 26, 27, 28, 29, 30, 31, 32, 33, 34, 35] (by decide +kernel) (by decide +kernel)
set_option maxRecDepth 20000 in
theorem gX0_areWellTogether_X0_pagesAlike : GoodIn wsX0_areWellTogether (wsV RX0 84 RX0 yX0_pagesAlike wsX0_pagesAlike) := goodIn_app (goodIn_of _ (by decide +kernel)) ggX0_areWellTogether_X0_pagesAlike
set_option maxRecDepth 20000 in
theorem ggX0_areWellTogether_X0_pagesAlikeByHalves : GoodIn wsX0_areWellTogether wsX0_pagesAlikeByHalves := goodIn_r _ [19, 13, 2, 3, 4, 5, 14, 20, 21, 22, 23, 24, 25, 26, 27, 28, 29, 30, 31, 32, 33, 34, 35] (by decide +kernel) (by decide +kernel)
set_option maxRecDepth 20000 in
theorem gX0_areWellTogether_X0_pagesAlikeByHalves : GoodIn wsX0_areWellTogether (wsV RX0 128 RX0 yX0_pagesAlikeByHalves wsX0_pagesAlikeByHalves) := goodIn_app (goodIn_of _ (by decide +kernel)) ggX0_areWellTogether_X0_pagesAlikeByHalves
theorem dX0_areWellTogether_0 : decode cX0_areWellTogether 0 = .ok (.aload_n 0, 1) := by decide +kernel
theorem dX0_areWellTogether_1 : decode cX0_areWellTogether 1 = .ok (.iload_n 1, 1) := by decide +kernel
theorem dX0_areWellTogether_2 : decode cX0_areWellTogether 2 = .ok (.iload_n 2, 1) := by decide +kernel
theorem dX0_areWellTogether_3 : decode cX0_areWellTogether 3 = .ok (.invokevirtual 84, 3) := by decide +kernel
theorem dX0_areWellTogether_6 : decode cX0_areWellTogether 6 = .ok (.istore_n 3, 1) := by decide +kernel
theorem dX0_areWellTogether_7 : decode cX0_areWellTogether 7 = .ok (.iload_n 3, 1) := by decide +kernel
theorem dX0_areWellTogether_8 : decode cX0_areWellTogether 8 = .ok (.aload_n 0, 1) := by decide +kernel
theorem dX0_areWellTogether_9 : decode cX0_areWellTogether 9 = .ok (.getfield 30, 3) := by decide +kernel
theorem dX0_areWellTogether_12 : decode cX0_areWellTogether 12 = .ok (.iload_n 1, 1) := by decide +kernel
theorem dX0_areWellTogether_13 : decode cX0_areWellTogether 13 = .ok (.iaload, 1) := by decide +kernel
theorem dX0_areWellTogether_14 : decode cX0_areWellTogether 14 = .ok (.aload_n 0, 1) := by decide +kernel
theorem dX0_areWellTogether_15 : decode cX0_areWellTogether 15 = .ok (.getfield 30, 3) := by decide +kernel
theorem dX0_areWellTogether_18 : decode cX0_areWellTogether 18 = .ok (.iload_n 2, 1) := by decide +kernel
theorem dX0_areWellTogether_19 : decode cX0_areWellTogether 19 = .ok (.iaload, 1) := by decide +kernel
theorem dX0_areWellTogether_20 : decode cX0_areWellTogether 20 = .ok (.invokestatic 112, 3) := by decide +kernel
theorem dX0_areWellTogether_23 : decode cX0_areWellTogether 23 = .ok (.if_icmp .lt 13, 3) := by decide +kernel
theorem dX0_areWellTogether_26 : decode cX0_areWellTogether 26 = .ok (.iload_n 3, 1) := by decide +kernel
theorem dX0_areWellTogether_27 : decode cX0_areWellTogether 27 = .ok (.aload_n 0, 1) := by decide +kernel
theorem dX0_areWellTogether_28 : decode cX0_areWellTogether 28 = .ok (.iload_n 1, 1) := by decide +kernel
theorem dX0_areWellTogether_29 : decode cX0_areWellTogether 29 = .ok (.iload_n 2, 1) := by decide +kernel
theorem dX0_areWellTogether_30 : decode cX0_areWellTogether 30 = .ok (.invokevirtual 128, 3) := by decide +kernel
theorem dX0_areWellTogether_33 : decode cX0_areWellTogether 33 = .ok (.if_icmp .eq 5, 3) := by decide +kernel
theorem dX0_areWellTogether_36 : decode cX0_areWellTogether 36 = .ok (.iconst 0, 1) := by decide +kernel
theorem dX0_areWellTogether_37 : decode cX0_areWellTogether 37 = .ok (.ireturn, 1) := by decide +kernel
theorem dX0_areWellTogether_38 : decode cX0_areWellTogether 38 = .ok (.aload_n 0, 1) := by decide +kernel
theorem dX0_areWellTogether_39 : decode cX0_areWellTogether 39 = .ok (.getfield 18, 3) := by decide +kernel
theorem dX0_areWellTogether_42 : decode cX0_areWellTogether 42 = .ok (.iload_n 1, 1) := by decide +kernel
theorem dX0_areWellTogether_43 : decode cX0_areWellTogether 43 = .ok (.iaload, 1) := by decide +kernel
theorem dX0_areWellTogether_44 : decode cX0_areWellTogether 44 = .ok (.ifCond .eq 27, 3) := by decide +kernel
theorem dX0_areWellTogether_47 : decode cX0_areWellTogether 47 = .ok (.aload_n 0, 1) := by decide +kernel
theorem dX0_areWellTogether_48 : decode cX0_areWellTogether 48 = .ok (.getfield 18, 3) := by decide +kernel
theorem dX0_areWellTogether_51 : decode cX0_areWellTogether 51 = .ok (.iload_n 2, 1) := by decide +kernel
theorem dX0_areWellTogether_52 : decode cX0_areWellTogether 52 = .ok (.iaload, 1) := by decide +kernel
theorem dX0_areWellTogether_53 : decode cX0_areWellTogether 53 = .ok (.ifCond .eq 18, 3) := by decide +kernel
theorem dX0_areWellTogether_56 : decode cX0_areWellTogether 56 = .ok (.aload_n 0, 1) := by decide +kernel
theorem dX0_areWellTogether_57 : decode cX0_areWellTogether 57 = .ok (.getfield 9, 3) := by decide +kernel
theorem dX0_areWellTogether_60 : decode cX0_areWellTogether 60 = .ok (.iload_n 1, 1) := by decide +kernel
theorem dX0_areWellTogether_61 : decode cX0_areWellTogether 61 = .ok (.iaload, 1) := by decide +kernel
theorem dX0_areWellTogether_62 : decode cX0_areWellTogether 62 = .ok (.aload_n 0, 1) := by decide +kernel
theorem dX0_areWellTogether_63 : decode cX0_areWellTogether 63 = .ok (.getfield 9, 3) := by decide +kernel
theorem dX0_areWellTogether_66 : decode cX0_areWellTogether 66 = .ok (.iload_n 2, 1) := by decide +kernel
theorem dX0_areWellTogether_67 : decode cX0_areWellTogether 67 = .ok (.iaload, 1) := by decide +kernel
theorem dX0_areWellTogether_68 : decode cX0_areWellTogether 68 = .ok (.if_icmp .eq 7, 3) := by decide +kernel
theorem dX0_areWellTogether_71 : decode cX0_areWellTogether 71 = .ok (.iconst 1, 1) := by decide +kernel
theorem dX0_areWellTogether_72 : decode cX0_areWellTogether 72 = .ok (.goto 4, 3) := by decide +kernel
theorem dX0_areWellTogether_75 : decode cX0_areWellTogether 75 = .ok (.iconst 0, 1) := by decide +kernel
theorem dX0_areWellTogether_76 : decode cX0_areWellTogether 76 = .ok (.ireturn, 1) := by decide +kernel
set_option maxRecDepth 20000 in
theorem ggX1_init_J4_init_da8c8 : GoodIn wsX1_init wsJ4_init_da8c8 := goodIn_r _ [15, 16, 17, 18, 19, 20, 2, 3, 21, 22, 23, 24, 25, 26, 27, 28, 29, 30, 31, 32, 33, 34, 35, 36] (by decide +kernel) (by decide +kernel)
set_option maxRecDepth 20000 in
theorem gX1_init_J4_init_da8c8 : GoodIn wsX1_init (wsJ4_init_da8c8) := ggX1_init_J4_init_da8c8
theorem dX1_init_0 : decode cX1_init 0 = .ok (.aload_n 0, 1) := by decide +kernel
theorem dX1_init_1 : decode cX1_init 1 = .ok (.invokespecial 3, 3) := by decide +kernel
theorem dX1_init_4 : decode cX1_init 4 = .ok (.aload_n 0, 1) := by decide +kernel
theorem dX1_init_5 : decode cX1_init 5 = .ok (.new 9, 3) := by decide +kernel
theorem dX1_init_8 : decode cX1_init 8 = .ok (.dup, 1) := by decide +kernel
theorem dX1_init_9 : decode cX1_init 9 = .ok (.invokespecial 11, 3) := by decide +kernel
theorem dX1_init_12 : decode cX1_init 12 = .ok (.putfield 12, 3) := by decide +kernel
theorem dX1_init_15 : decode cX1_init 15 = .ok (.aload_n 0, 1) := by decide +kernel
theorem dX1_init_16 : decode cX1_init 16 = .ok (.iconst 0, 1) := by decide +kernel
theorem dX1_init_17 : decode cX1_init 17 = .ok (.putfield 18, 3) := by decide +kernel
theorem dX1_init_20 : decode cX1_init 20 = .ok (.aload_n 0, 1) := by decide +kernel
theorem dX1_init_21 : decode cX1_init 21 = .ok (.iconst 0, 1) := by decide +kernel
theorem dX1_init_22 : decode cX1_init 22 = .ok (.putfield 22, 3) := by decide +kernel
theorem dX1_init_25 : decode cX1_init 25 = .ok (.aload_n 0, 1) := by decide +kernel
theorem dX1_init_26 : decode cX1_init 26 = .ok (.iconst 0, 1) := by decide +kernel
theorem dX1_init_27 : decode cX1_init 27 = .ok (.putfield 25, 3) := by decide +kernel
theorem dX1_init_30 : decode cX1_init 30 = .ok (.aload_n 0, 1) := by decide +kernel
theorem dX1_init_31 : decode cX1_init 31 = .ok (.iconst 0, 1) := by decide +kernel
theorem dX1_init_32 : decode cX1_init 32 = .ok (.putfield 28, 3) := by decide +kernel
theorem dX1_init_35 : decode cX1_init 35 = .ok (.aload_n 0, 1) := by decide +kernel
theorem dX1_init_36 : decode cX1_init 36 = .ok (.iconst 0, 1) := by decide +kernel
theorem dX1_init_37 : decode cX1_init 37 = .ok (.putfield 31, 3) := by decide +kernel
theorem dX1_init_40 : decode cX1_init 40 = .ok (.return_, 1) := by decide +kernel
set_option maxRecDepth 20000 in
theorem ggX1_check_X1_goToStart : GoodIn wsX1_check wsX1_goToStart := goodIn_r _ [7, 1, 89, 90, 91, 92, 93, 94] (by decide +kernel) (by decide +kernel)
set_option maxRecDepth 20000 in
theorem gX1_check_X1_goToStart : GoodIn wsX1_check (wsV RX1 34 RX1 yX1_goToStart wsX1_goToStart) := goodIn_app (goodIn_of _ (by decide +kernel)) ggX1_check_X1_goToStart
set_option maxRecDepth 20000 in
theorem ggX1_check_X1_takeCommand : GoodIn wsX1_check wsX1_takeCommand := goodIn_r _ [11, 12, 1, 13, 14, 15, 6, 16, 2, 17, 18, 19, 20, 21, 22, 23, 24, 25, 26, 27, 28, 29, 30, 31, 32, 33, 34, 35, 36, 37, 38, 39, 40, 41, 42, 43, 44, 45, 46, 47, 48, 49, 50, 51, 52, 53, 54, 55, 56, 57, 58, 59, 60, 61, 62, 63, 64, 65, 66, 67, 68, 69, 70, 71, 72, 73, 74, 75, 76, 77, 78, 79, 80, 81, 82, 83, 84, 85, 86, 87, 88, 89, 90, 91, 92, 93, 94, 95, 96, 97, 98] (by decide +kernel) (by decide +kernel)
set_option maxRecDepth 20000 in
theorem gX1_check_X1_takeCommand : GoodIn wsX1_check (wsV RX1 37 RX1 yX1_takeCommand wsX1_takeCommand) := goodIn_app (goodIn_of _ (by decide +kernel)) ggX1_check_X1_takeCommand
set_option maxRecDepth 20000 in
theorem ggX1_check_X1_takeSign : GoodIn wsX1_check wsX1_takeSign := goodIn_r _ [84, 1, 13, 14, 15, 6, 16, 2, 17, 18, 19, 20, 21, 22, 23, 24, 25, 26, 27, 28, 29, 30, 31, 32, 33, 34, 35, 36, 37, 38, 39, 40, 41, 42, 43, 44, 45, 46, 47, 48, 49, 50, 51, 52, 53, 54, 55, 56, 57, 58, 59, 60, 61, 89, 90, 91, 92, 93, 94, 95, 96, 97, 98] (by decide +kernel) (by decide +kernel)
set_option maxRecDepth 20000 in
theorem gX1_check_X1_takeSign : GoodIn wsX1_check (wsV RX1 41 RX1 yX1_takeSign wsX1_takeSign) := goodIn_app (goodIn_of _ (by decide +kernel)) ggX1_check_X1_takeSign
set_option maxRecDepth 20000 in
theorem ggX1_check_J4_length_8abf5 : GoodIn wsX1_check wsJ4_length_8abf5 := goodIn_r _ [21, 22, 23, 24, 25, 26, 27, 28, 95, 96, 97, 98] (by decide +kernel) (by decide +kernel)
set_option maxRecDepth 20000 in
theorem gX1_check_J4_length_8abf5 : GoodIn wsX1_check (wsV RX1 45 RJ4 yJ4_length_8abf5 wsJ4_length_8abf5) := goodIn_app (goodIn_of _ (by decide +kernel)) ggX1_check_J4_length_8abf5
theorem dX1_check_0 : decode cX1_check 0 = .ok (.aload_n 0, 1) := by decide +kernel
theorem dX1_check_1 : decode cX1_check 1 = .ok (.invokevirtual 34, 3) := by decide +kernel
theorem dX1_check_4 : decode cX1_check 4 = .ok (.iconst 1, 1) := by decide +kernel
theorem dX1_check_5 : decode cX1_check 5 = .ok (.istore_n 1, 1) := by decide +kernel
theorem dX1_check_6 : decode cX1_check 6 = .ok (.iload_n 1, 1) := by decide +kernel
theorem dX1_check_7 : decode cX1_check 7 = .ok (.bipush 70, 2) := by decide +kernel
theorem dX1_check_9 : decode cX1_check 9 = .ok (.if_icmp .gt 51, 3) := by decide +kernel
theorem dX1_check_12 : decode cX1_check 12 = .ok (.aload_n 0, 1) := by decide +kernel
theorem dX1_check_13 : decode cX1_check 13 = .ok (.invokevirtual 37, 3) := by decide +kernel
theorem dX1_check_16 : decode cX1_check 16 = .ok (.ifCond .eq 44, 3) := by decide +kernel
theorem dX1_check_19 : decode cX1_check 19 = .ok (.aload_n 0, 1) := by decide +kernel
theorem dX1_check_20 : decode cX1_check 20 = .ok (.bipush 59, 2) := by decide +kernel
theorem dX1_check_22 : decode cX1_check 22 = .ok (.invokevirtual 41, 3) := by decide +kernel
theorem dX1_check_25 : decode cX1_check 25 = .ok (.ifCond .ne 29, 3) := by decide +kernel
theorem dX1_check_28 : decode cX1_check 28 = .ok (.aload_n 0, 1) := by decide +kernel
theorem dX1_check_29 : decode cX1_check 29 = .ok (.getfield 18, 3) := by decide +kernel
theorem dX1_check_32 : decode cX1_check 32 = .ok (.aload_n 0, 1) := by decide +kernel
theorem dX1_check_33 : decode cX1_check 33 = .ok (.getfield 12, 3) := by decide +kernel
theorem dX1_check_36 : decode cX1_check 36 = .ok (.invokevirtual 45, 3) := by decide +kernel
theorem dX1_check_39 : decode cX1_check 39 = .ok (.if_icmp .ne 7, 3) := by decide +kernel
theorem dX1_check_42 : decode cX1_check 42 = .ok (.iload_n 1, 1) := by decide +kernel
theorem dX1_check_43 : decode cX1_check 43 = .ok (.goto 10, 3) := by decide +kernel
theorem dX1_check_46 : decode cX1_check 46 = .ok (.bipush (-100), 2) := by decide +kernel
theorem dX1_check_48 : decode cX1_check 48 = .ok (.aload_n 0, 1) := by decide +kernel
theorem dX1_check_49 : decode cX1_check 49 = .ok (.getfield 18, 3) := by decide +kernel
theorem dX1_check_52 : decode cX1_check 52 = .ok (.isub, 1) := by decide +kernel
theorem dX1_check_53 : decode cX1_check 53 = .ok (.ireturn, 1) := by decide +kernel
theorem dX1_check_54 : decode cX1_check 54 = .ok (.iinc 1 1, 3) := by decide +kernel
theorem dX1_check_57 : decode cX1_check 57 = .ok (.goto (-51), 3) := by decide +kernel
theorem dX1_check_60 : decode cX1_check 60 = .ok (.bipush (-100), 2) := by decide +kernel
theorem dX1_check_62 : decode cX1_check 62 = .ok (.aload_n 0, 1) := by decide +kernel
theorem dX1_check_63 : decode cX1_check 63 = .ok (.getfield 18, 3) := by decide +kernel
theorem dX1_check_66 : decode cX1_check 66 = .ok (.isub, 1) := by decide +kernel
theorem dX1_check_67 : decode cX1_check 67 = .ok (.ireturn, 1) := by decide +kernel
theorem dX1_goToStart_0 : decode cX1_goToStart 0 = .ok (.aload_n 0, 1) := by decide +kernel
theorem dX1_goToStart_1 : decode cX1_goToStart 1 = .ok (.iconst 0, 1) := by decide +kernel
theorem dX1_goToStart_2 : decode cX1_goToStart 2 = .ok (.putfield 18, 3) := by decide +kernel
theorem dX1_goToStart_5 : decode cX1_goToStart 5 = .ok (.return_, 1) := by decide +kernel
set_option maxRecDepth 20000 in
theorem ggX1_takeCommand_X1_peek : GoodIn wsX1_takeCommand wsX1_peek := goodIn_r _ [7, 2, 8, 9, 10, 11, 12, 13, 14, 15, 16, 17, 18, 19, 20, 21, 22, 23, 24, 25, 26, 27, 28, 29, 30, 31, 32, 33, 34, 35, 36, 37, 38, 39, 40, 41, 42, 43, 44, 45, 46, 47, 48, 49, 50, 51, 52, 53, 81, 82, 83, 84, 85, 86, 87, 88, 89, 90] (by decide +kernel) (by decide +kernel)
set_option maxRecDepth 20000 in
theorem gX1_takeCommand_X1_peek : GoodIn wsX1_takeCommand (wsV RX1 49 RX1 yX1_peek wsX1_peek) := goodIn_app (goodIn_of _ (by decide +kernel)) ggX1_takeCommand_X1_peek
set_option maxRecDepth 20000 in
theorem ggX1_takeCommand_X1_takeDigit : GoodIn wsX1_takeCommand wsX1_takeDigit := goodIn_r _ [57, 58, 2, 59, 60, 61, 6, 62, 3, 4, 5, 7, 8, 9, 10, 11, 12, 13, 14, 15, 16, 17, 18, 19, 20, 21, 22, 23, 24, 25, 26, 27, 28, 29, 30, 31, 32, 33, 34, 35, 36, 37, 38, 39, 40, 41, 42, 43, 44, 45, 46, 47, 48, 49, 50, 51, 52, 53, 81, 82, 83, 84, 85, 86, 87, 88, 89, 90] (by decide +kernel) (by decide +kernel)
set_option maxRecDepth 20000 in
theorem gX1_takeCommand_X1_takeDigit : GoodIn wsX1_takeCommand (wsV RX1 52 RX1 yX1_takeDigit wsX1_takeDigit) := goodIn_app (goodIn_of _ (by decide +kernel)) ggX1_takeCommand_X1_takeDigit
set_option maxRecDepth 20000 in
theorem ggX1_takeCommand_X1_takeLetter : GoodIn wsX1_takeCommand wsX1_takeLetter := goodIn_r _ [66, 67, 2, 3, 4, 5, 6, 7, 8, 9, 10, 11, 12, 13, 14, 15, 16, 17, 18, 19, 20, 21, 22, 23, 24, 25, 26, 27, 28, 29, 30, 31, 32, 33, 34, 35, 36, 37, 38, 39, 40, 41, 42, 43, 44, 45, 46, 47, 48, 49, 50, 51, 52, 53, 81, 82, 83, 84, 85, 86, 87, 88, 89, 90] (by decide +kernel) (by decide +kernel)
set_option maxRecDepth 20000 in
theorem gX1_takeCommand_X1_takeLetter : GoodIn wsX1_takeCommand (wsV RX1 55 RX1 yX1_takeLetter wsX1_takeLetter) := goodIn_app (goodIn_of _ (by decide +kernel)) ggX1_takeCommand_X1_takeLetter
set_option maxRecDepth 20000 in
theorem ggX1_takeCommand_X1_takeRoad : GoodIn wsX1_takeCommand wsX1_takeRoad := goodIn_r _ [71, 58, 67, 72, 54, 55, 56, 6, 57, 2, 59, 60, 61, 62, 3, 4, 5, 7, 8, 9, 10, 11, 12, 13, 14, 15, 16, 17, 18, 19, 20, 21, 22, 23, 24, 25, 26, 27, 28, 29, 30, 31, 32, 33, 34, 35, 36, 37, 38, 39, 40, 41, 42, 43, 44, 45, 46, 47, 48, 49, 50, 51, 52, 53, 73, 74, 75, 76, 81, 82, 83, 84, 85, 86, 87, 88, 89, 90] (by decide +kernel) (by decide +kernel)
set_option maxRecDepth 20000 in
theorem gX1_takeCommand_X1_takeRoad : GoodIn wsX1_takeCommand (wsV RX1 58 RX1 yX1_takeRoad wsX1_takeRoad) := goodIn_app (goodIn_of _ (by decide +kernel)) ggX1_takeCommand_X1_takeRoad
set_option maxRecDepth 20000 in
theorem ggX1_takeCommand_X1_takeNumber : GoodIn wsX1_takeCommand wsX1_takeNumber := goodIn_r _ [80, 58, 2, 54, 55, 56, 6, 57, 59, 60, 61, 62, 3, 4, 5, 7, 8, 9, 10, 11, 12, 13, 14, 15, 16, 17, 18, 19, 20, 21, 22, 23, 24, 25, 26, 27, 28, 29, 30, 31, 32, 33, 34, 35, 36, 37, 38, 39, 40, 41, 42, 43, 44, 45, 46, 47, 48, 49, 50, 51, 52, 53, 81, 82, 83, 84, 85, 86, 87, 88, 89, 90] (by decide +kernel) (by decide +kernel)
set_option maxRecDepth 20000 in
theorem gX1_takeCommand_X1_takeNumber : GoodIn wsX1_takeCommand (wsV RX1 61 RX1 yX1_takeNumber wsX1_takeNumber) := goodIn_app (goodIn_of _ (by decide +kernel)) ggX1_takeCommand_X1_takeNumber
theorem dX1_takeCommand_0 : decode cX1_takeCommand 0 = .ok (.aload_n 0, 1) := by decide +kernel
theorem dX1_takeCommand_1 : decode cX1_takeCommand 1 = .ok (.aload_n 0, 1) := by decide +kernel
theorem dX1_takeCommand_2 : decode cX1_takeCommand 2 = .ok (.invokevirtual 49, 3) := by decide +kernel
theorem dX1_takeCommand_5 : decode cX1_takeCommand 5 = .ok (.putfield 22, 3) := by decide +kernel
theorem dX1_takeCommand_8 : decode cX1_takeCommand 8 = .ok (.aload_n 0, 1) := by decide +kernel
theorem dX1_takeCommand_9 : decode cX1_takeCommand 9 = .ok (.getfield 22, 3) := by decide +kernel
theorem dX1_takeCommand_12 : decode cX1_takeCommand 12 = .ok (.tableswitch 183 100 122 #[108, 183, 183, 183, 183, 183, 183, 108, 183, 108, 183, 183, 168, 183, 153, 183, 183, 183, 183, 123, 183, 183, 108], 108) := by decide +kernel
theorem dX1_takeCommand_120 : decode cX1_takeCommand 120 = .ok (.aload_n 0, 1) := by decide +kernel
theorem dX1_takeCommand_121 : decode cX1_takeCommand 121 = .ok (.dup, 1) := by decide +kernel
theorem dX1_takeCommand_122 : decode cX1_takeCommand 122 = .ok (.getfield 18, 3) := by decide +kernel
theorem dX1_takeCommand_125 : decode cX1_takeCommand 125 = .ok (.iconst 1, 1) := by decide +kernel
theorem dX1_takeCommand_126 : decode cX1_takeCommand 126 = .ok (.iadd, 1) := by decide +kernel
theorem dX1_takeCommand_127 : decode cX1_takeCommand 127 = .ok (.putfield 18, 3) := by decide +kernel
theorem dX1_takeCommand_130 : decode cX1_takeCommand 130 = .ok (.aload_n 0, 1) := by decide +kernel
theorem dX1_takeCommand_131 : decode cX1_takeCommand 131 = .ok (.invokevirtual 52, 3) := by decide +kernel
theorem dX1_takeCommand_134 : decode cX1_takeCommand 134 = .ok (.ireturn, 1) := by decide +kernel
theorem dX1_takeCommand_135 : decode cX1_takeCommand 135 = .ok (.aload_n 0, 1) := by decide +kernel
theorem dX1_takeCommand_136 : decode cX1_takeCommand 136 = .ok (.dup, 1) := by decide +kernel
theorem dX1_takeCommand_137 : decode cX1_takeCommand 137 = .ok (.getfield 18, 3) := by decide +kernel
theorem dX1_takeCommand_140 : decode cX1_takeCommand 140 = .ok (.iconst 1, 1) := by decide +kernel
theorem dX1_takeCommand_141 : decode cX1_takeCommand 141 = .ok (.iadd, 1) := by decide +kernel
theorem dX1_takeCommand_142 : decode cX1_takeCommand 142 = .ok (.putfield 18, 3) := by decide +kernel
theorem dX1_takeCommand_145 : decode cX1_takeCommand 145 = .ok (.aload_n 0, 1) := by decide +kernel
theorem dX1_takeCommand_146 : decode cX1_takeCommand 146 = .ok (.invokevirtual 52, 3) := by decide +kernel
theorem dX1_takeCommand_149 : decode cX1_takeCommand 149 = .ok (.ifCond .eq 14, 3) := by decide +kernel
theorem dX1_takeCommand_152 : decode cX1_takeCommand 152 = .ok (.aload_n 0, 1) := by decide +kernel
theorem dX1_takeCommand_153 : decode cX1_takeCommand 153 = .ok (.invokevirtual 55, 3) := by decide +kernel
theorem dX1_takeCommand_156 : decode cX1_takeCommand 156 = .ok (.ifCond .eq 7, 3) := by decide +kernel
theorem dX1_takeCommand_159 : decode cX1_takeCommand 159 = .ok (.iconst 1, 1) := by decide +kernel
theorem dX1_takeCommand_160 : decode cX1_takeCommand 160 = .ok (.goto 4, 3) := by decide +kernel
theorem dX1_takeCommand_163 : decode cX1_takeCommand 163 = .ok (.iconst 0, 1) := by decide +kernel
theorem dX1_takeCommand_164 : decode cX1_takeCommand 164 = .ok (.ireturn, 1) := by decide +kernel
theorem dX1_takeCommand_165 : decode cX1_takeCommand 165 = .ok (.aload_n 0, 1) := by decide +kernel
theorem dX1_takeCommand_166 : decode cX1_takeCommand 166 = .ok (.dup, 1) := by decide +kernel
theorem dX1_takeCommand_167 : decode cX1_takeCommand 167 = .ok (.getfield 18, 3) := by decide +kernel
theorem dX1_takeCommand_170 : decode cX1_takeCommand 170 = .ok (.iconst 1, 1) := by decide +kernel
theorem dX1_takeCommand_171 : decode cX1_takeCommand 171 = .ok (.iadd, 1) := by decide +kernel
theorem dX1_takeCommand_172 : decode cX1_takeCommand 172 = .ok (.putfield 18, 3) := by decide +kernel
theorem dX1_takeCommand_175 : decode cX1_takeCommand 175 = .ok (.aload_n 0, 1) := by decide +kernel
theorem dX1_takeCommand_176 : decode cX1_takeCommand 176 = .ok (.invokevirtual 58, 3) := by decide +kernel
theorem dX1_takeCommand_179 : decode cX1_takeCommand 179 = .ok (.ireturn, 1) := by decide +kernel
theorem dX1_takeCommand_180 : decode cX1_takeCommand 180 = .ok (.aload_n 0, 1) := by decide +kernel
theorem dX1_takeCommand_181 : decode cX1_takeCommand 181 = .ok (.dup, 1) := by decide +kernel
theorem dX1_takeCommand_182 : decode cX1_takeCommand 182 = .ok (.getfield 18, 3) := by decide +kernel
theorem dX1_takeCommand_185 : decode cX1_takeCommand 185 = .ok (.iconst 1, 1) := by decide +kernel
theorem dX1_takeCommand_186 : decode cX1_takeCommand 186 = .ok (.iadd, 1) := by decide +kernel
theorem dX1_takeCommand_187 : decode cX1_takeCommand 187 = .ok (.putfield 18, 3) := by decide +kernel
theorem dX1_takeCommand_190 : decode cX1_takeCommand 190 = .ok (.aload_n 0, 1) := by decide +kernel
theorem dX1_takeCommand_191 : decode cX1_takeCommand 191 = .ok (.invokevirtual 61, 3) := by decide +kernel
theorem dX1_takeCommand_194 : decode cX1_takeCommand 194 = .ok (.ireturn, 1) := by decide +kernel
theorem dX1_takeCommand_195 : decode cX1_takeCommand 195 = .ok (.iconst 0, 1) := by decide +kernel
theorem dX1_takeCommand_196 : decode cX1_takeCommand 196 = .ok (.ireturn, 1) := by decide +kernel
set_option maxRecDepth 20000 in
theorem ggX1_takeSign_X1_peek : GoodIn wsX1_takeSign wsX1_peek := goodIn_r _ [6, 1, 7, 8, 9, 10, 11, 12, 13, 14, 15, 16, 17, 18, 19, 20, 21, 22, 23, 24, 25, 26, 27, 28, 29, 30, 31, 32, 33, 34, 35, 36, 37, 38, 39, 40, 41, 42, 43, 44, 45, 46, 47, 48, 49, 50, 51, 52, 53, 54, 55, 56, 57, 58, 59, 60, 61, 62] (by decide +kernel) (by decide +kernel)
set_option maxRecDepth 20000 in
theorem gX1_takeSign_X1_peek : GoodIn wsX1_takeSign (wsV RX1 49 RX1 yX1_peek wsX1_peek) := goodIn_app (goodIn_of _ (by decide +kernel)) ggX1_takeSign_X1_peek
theorem dX1_takeSign_0 : decode cX1_takeSign 0 = .ok (.aload_n 0, 1) := by decide +kernel
theorem dX1_takeSign_1 : decode cX1_takeSign 1 = .ok (.invokevirtual 49, 3) := by decide +kernel
theorem dX1_takeSign_4 : decode cX1_takeSign 4 = .ok (.iload_n 1, 1) := by decide +kernel
theorem dX1_takeSign_5 : decode cX1_takeSign 5 = .ok (.if_icmp .eq 5, 3) := by decide +kernel
theorem dX1_takeSign_8 : decode cX1_takeSign 8 = .ok (.iconst 0, 1) := by decide +kernel
theorem dX1_takeSign_9 : decode cX1_takeSign 9 = .ok (.ireturn, 1) := by decide +kernel
theorem dX1_takeSign_10 : decode cX1_takeSign 10 = .ok (.aload_n 0, 1) := by decide +kernel
theorem dX1_takeSign_11 : decode cX1_takeSign 11 = .ok (.dup, 1) := by decide +kernel
theorem dX1_takeSign_12 : decode cX1_takeSign 12 = .ok (.getfield 18, 3) := by decide +kernel
theorem dX1_takeSign_15 : decode cX1_takeSign 15 = .ok (.iconst 1, 1) := by decide +kernel
theorem dX1_takeSign_16 : decode cX1_takeSign 16 = .ok (.iadd, 1) := by decide +kernel
theorem dX1_takeSign_17 : decode cX1_takeSign 17 = .ok (.putfield 18, 3) := by decide +kernel
theorem dX1_takeSign_20 : decode cX1_takeSign 20 = .ok (.iconst 1, 1) := by decide +kernel
theorem dX1_takeSign_21 : decode cX1_takeSign 21 = .ok (.ireturn, 1) := by decide +kernel
set_option maxRecDepth 20000 in
theorem ggX1_peek_J4_length_8abf5 : GoodIn wsX1_peek wsJ4_length_8abf5 := goodIn_r _ [7, 8, 9, 10, 11, 12, 13, 14, 54, 55, 56, 57] (by decide +kernel) (by decide +kernel)
set_option maxRecDepth 20000 in
theorem gX1_peek_J4_length_8abf5 : GoodIn wsX1_peek (wsV RX1 45 RJ4 yJ4_length_8abf5 wsJ4_length_8abf5) := goodIn_app (goodIn_of _ (by decide +kernel)) ggX1_peek_J4_length_8abf5
set_option maxRecDepth 20000 in
theorem ggX1_peek_J4_charAt_5068e : GoodIn wsX1_peek wsJ4_charAt_5068e := goodIn_r _ [18, 19, 20, 10, 21, 12, 22, 23, 24, 14, 25, 26, 27, 28, 29, 30, 31, 32, 33, 34, 35, 36, 37, 38, 39, 40, 41, 42, 43, 44, 45, 46, 47, 54, 55, 56, 57] (by decide +kernel) (by decide +kernel)
set_option maxRecDepth 20000 in
theorem gX1_peek_J4_charAt_5068e : GoodIn wsX1_peek (wsV RX1 64 RJ4 yJ4_charAt_5068e wsJ4_charAt_5068e) := goodIn_app (goodIn_of _ (by decide +kernel)) ggX1_peek_J4_charAt_5068e
theorem dX1_peek_0 : decode cX1_peek 0 = .ok (.aload_n 0, 1) := by decide +kernel
theorem dX1_peek_1 : decode cX1_peek 1 = .ok (.getfield 18, 3) := by decide +kernel
theorem dX1_peek_4 : decode cX1_peek 4 = .ok (.ifCond .lt 31, 3) := by decide +kernel
theorem dX1_peek_7 : decode cX1_peek 7 = .ok (.aload_n 0, 1) := by decide +kernel
theorem dX1_peek_8 : decode cX1_peek 8 = .ok (.getfield 18, 3) := by decide +kernel
theorem dX1_peek_11 : decode cX1_peek 11 = .ok (.aload_n 0, 1) := by decide +kernel
theorem dX1_peek_12 : decode cX1_peek 12 = .ok (.getfield 12, 3) := by decide +kernel
theorem dX1_peek_15 : decode cX1_peek 15 = .ok (.invokevirtual 45, 3) := by decide +kernel
theorem dX1_peek_18 : decode cX1_peek 18 = .ok (.if_icmp .ge 17, 3) := by decide +kernel
theorem dX1_peek_21 : decode cX1_peek 21 = .ok (.aload_n 0, 1) := by decide +kernel
theorem dX1_peek_22 : decode cX1_peek 22 = .ok (.getfield 12, 3) := by decide +kernel
theorem dX1_peek_25 : decode cX1_peek 25 = .ok (.aload_n 0, 1) := by decide +kernel
theorem dX1_peek_26 : decode cX1_peek 26 = .ok (.getfield 18, 3) := by decide +kernel
theorem dX1_peek_29 : decode cX1_peek 29 = .ok (.invokevirtual 64, 3) := by decide +kernel
theorem dX1_peek_32 : decode cX1_peek 32 = .ok (.goto 4, 3) := by decide +kernel
theorem dX1_peek_35 : decode cX1_peek 35 = .ok (.iconst (-1), 1) := by decide +kernel
theorem dX1_peek_36 : decode cX1_peek 36 = .ok (.ireturn, 1) := by decide +kernel
set_option maxRecDepth 20000 in
theorem ggX1_isAtDigit_X1_peek : GoodIn wsX1_isAtDigit wsX1_peek := goodIn_r _ [5, 6, 7, 8, 9, 10, 11, 12, 13, 14, 15, 16, 17, 18, 19, 20, 21, 22, 23, 24, 25, 26, 27, 28, 29, 30, 31, 32, 33, 34, 35, 36, 37, 38, 39, 40, 41, 42, 43, 44, 45, 46, 47, 48, 49, 50, 51, 52, 53, 54, 55, 56, 57, 58, 59, 60, 61, 62] (by decide +kernel) (by decide +kernel)
set_option maxRecDepth 20000 in
theorem gX1_isAtDigit_X1_peek : GoodIn wsX1_isAtDigit (wsV RX1 49 RX1 yX1_peek wsX1_peek) := goodIn_app (goodIn_of _ (by decide +kernel)) ggX1_isAtDigit_X1_peek
theorem dX1_isAtDigit_0 : decode cX1_isAtDigit 0 = .ok (.aload_n 0, 1) := by decide +kernel
theorem dX1_isAtDigit_1 : decode cX1_isAtDigit 1 = .ok (.invokevirtual 49, 3) := by decide +kernel
theorem dX1_isAtDigit_4 : decode cX1_isAtDigit 4 = .ok (.bipush 48, 2) := by decide +kernel
theorem dX1_isAtDigit_6 : decode cX1_isAtDigit 6 = .ok (.if_icmp .lt 16, 3) := by decide +kernel
theorem dX1_isAtDigit_9 : decode cX1_isAtDigit 9 = .ok (.aload_n 0, 1) := by decide +kernel
theorem dX1_isAtDigit_10 : decode cX1_isAtDigit 10 = .ok (.invokevirtual 49, 3) := by decide +kernel
theorem dX1_isAtDigit_13 : decode cX1_isAtDigit 13 = .ok (.bipush 57, 2) := by decide +kernel
theorem dX1_isAtDigit_15 : decode cX1_isAtDigit 15 = .ok (.if_icmp .gt 7, 3) := by decide +kernel
theorem dX1_isAtDigit_18 : decode cX1_isAtDigit 18 = .ok (.iconst 1, 1) := by decide +kernel
theorem dX1_isAtDigit_19 : decode cX1_isAtDigit 19 = .ok (.goto 4, 3) := by decide +kernel
theorem dX1_isAtDigit_22 : decode cX1_isAtDigit 22 = .ok (.iconst 0, 1) := by decide +kernel
theorem dX1_isAtDigit_23 : decode cX1_isAtDigit 23 = .ok (.ireturn, 1) := by decide +kernel
set_option maxRecDepth 20000 in
theorem ggX1_takeDigit_X1_isAtDigit : GoodIn wsX1_takeDigit wsX1_isAtDigit := goodIn_r _ [7, 8, 9, 10, 6, 11, 2, 12, 13, 14, 15, 16, 17, 18, 19, 20, 21, 22, 23, 24, 25, 26, 27, 28, 29, 30, 31, 32, 33, 34, 35, 36, 37, 38, 39, 40, 41, 42, 43, 44, 45, 46, 47, 48, 49, 50, 51, 52, 53, 54, 55, 56, 57, 58, 59, 60, 61, 62, 63, 64, 65, 66, 67] (by decide +kernel) (by decide +kernel)
set_option maxRecDepth 20000 in
theorem gX1_takeDigit_X1_isAtDigit : GoodIn wsX1_takeDigit (wsV RX1 68 RX1 yX1_isAtDigit wsX1_isAtDigit) := goodIn_app (goodIn_of _ (by decide +kernel)) ggX1_takeDigit_X1_isAtDigit
set_option maxRecDepth 20000 in
theorem ggX1_takeDigit_X1_peek : GoodIn wsX1_takeDigit wsX1_peek := goodIn_r _ [11, 2, 12, 13, 14, 15, 16, 17, 18, 19, 20, 21, 22, 23, 24, 25, 26, 27, 28, 29, 30, 31, 32, 33, 34, 35, 36, 37, 38, 39, 40, 41, 42, 43, 44, 45, 46, 47, 48, 49, 50, 51, 52, 53, 54, 55, 56, 57, 58, 59, 60, 61, 62, 63, 64, 65, 66, 67] (by decide +kernel) (by decide +kernel)
set_option maxRecDepth 20000 in
theorem gX1_takeDigit_X1_peek : GoodIn wsX1_takeDigit (wsV RX1 49 RX1 yX1_peek wsX1_peek) := goodIn_app (goodIn_of _ (by decide +kernel)) ggX1_takeDigit_X1_peek
theorem dX1_takeDigit_0 : decode cX1_takeDigit 0 = .ok (.aload_n 0, 1) := by decide +kernel
theorem dX1_takeDigit_1 : decode cX1_takeDigit 1 = .ok (.invokevirtual 68, 3) := by decide +kernel
theorem dX1_takeDigit_4 : decode cX1_takeDigit 4 = .ok (.ifCond .ne 5, 3) := by decide +kernel
theorem dX1_takeDigit_7 : decode cX1_takeDigit 7 = .ok (.iconst 0, 1) := by decide +kernel
theorem dX1_takeDigit_8 : decode cX1_takeDigit 8 = .ok (.ireturn, 1) := by decide +kernel
theorem dX1_takeDigit_9 : decode cX1_takeDigit 9 = .ok (.aload_n 0, 1) := by decide +kernel
theorem dX1_takeDigit_10 : decode cX1_takeDigit 10 = .ok (.aload_n 0, 1) := by decide +kernel
theorem dX1_takeDigit_11 : decode cX1_takeDigit 11 = .ok (.invokevirtual 49, 3) := by decide +kernel
theorem dX1_takeDigit_14 : decode cX1_takeDigit 14 = .ok (.bipush 48, 2) := by decide +kernel
theorem dX1_takeDigit_16 : decode cX1_takeDigit 16 = .ok (.isub, 1) := by decide +kernel
theorem dX1_takeDigit_17 : decode cX1_takeDigit 17 = .ok (.putfield 25, 3) := by decide +kernel
theorem dX1_takeDigit_20 : decode cX1_takeDigit 20 = .ok (.aload_n 0, 1) := by decide +kernel
theorem dX1_takeDigit_21 : decode cX1_takeDigit 21 = .ok (.dup, 1) := by decide +kernel
theorem dX1_takeDigit_22 : decode cX1_takeDigit 22 = .ok (.getfield 18, 3) := by decide +kernel
theorem dX1_takeDigit_25 : decode cX1_takeDigit 25 = .ok (.iconst 1, 1) := by decide +kernel
theorem dX1_takeDigit_26 : decode cX1_takeDigit 26 = .ok (.iadd, 1) := by decide +kernel
theorem dX1_takeDigit_27 : decode cX1_takeDigit 27 = .ok (.putfield 18, 3) := by decide +kernel
theorem dX1_takeDigit_30 : decode cX1_takeDigit 30 = .ok (.iconst 1, 1) := by decide +kernel
theorem dX1_takeDigit_31 : decode cX1_takeDigit 31 = .ok (.ireturn, 1) := by decide +kernel
set_option maxRecDepth 20000 in
theorem ggX1_takeLetter_X1_peek : GoodIn wsX1_takeLetter wsX1_peek := goodIn_r _ [7, 2, 8, 9, 10, 11, 12, 13, 14, 15, 16, 17, 18, 19, 20, 21, 22, 23, 24, 25, 26, 27, 28, 29, 30, 31, 32, 33, 34, 35, 36, 37, 38, 39, 40, 41, 42, 43, 44, 45, 46, 47, 48, 49, 50, 51, 52, 53, 54, 55, 56, 57, 58, 59, 60, 61, 62, 63] (by decide +kernel) (by decide +kernel)
set_option maxRecDepth 20000 in
theorem gX1_takeLetter_X1_peek : GoodIn wsX1_takeLetter (wsV RX1 49 RX1 yX1_peek wsX1_peek) := goodIn_app (goodIn_of _ (by decide +kernel)) ggX1_takeLetter_X1_peek
theorem dX1_takeLetter_0 : decode cX1_takeLetter 0 = .ok (.aload_n 0, 1) := by decide +kernel
theorem dX1_takeLetter_1 : decode cX1_takeLetter 1 = .ok (.invokevirtual 49, 3) := by decide +kernel
theorem dX1_takeLetter_4 : decode cX1_takeLetter 4 = .ok (.bipush 97, 2) := by decide +kernel
theorem dX1_takeLetter_6 : decode cX1_takeLetter 6 = .ok (.if_icmp .lt 12, 3) := by decide +kernel
theorem dX1_takeLetter_9 : decode cX1_takeLetter 9 = .ok (.aload_n 0, 1) := by decide +kernel
theorem dX1_takeLetter_10 : decode cX1_takeLetter 10 = .ok (.invokevirtual 49, 3) := by decide +kernel
theorem dX1_takeLetter_13 : decode cX1_takeLetter 13 = .ok (.bipush 100, 2) := by decide +kernel
theorem dX1_takeLetter_15 : decode cX1_takeLetter 15 = .ok (.if_icmp .le 5, 3) := by decide +kernel
theorem dX1_takeLetter_18 : decode cX1_takeLetter 18 = .ok (.iconst 0, 1) := by decide +kernel
theorem dX1_takeLetter_19 : decode cX1_takeLetter 19 = .ok (.ireturn, 1) := by decide +kernel
theorem dX1_takeLetter_20 : decode cX1_takeLetter 20 = .ok (.aload_n 0, 1) := by decide +kernel
theorem dX1_takeLetter_21 : decode cX1_takeLetter 21 = .ok (.aload_n 0, 1) := by decide +kernel
theorem dX1_takeLetter_22 : decode cX1_takeLetter 22 = .ok (.invokevirtual 49, 3) := by decide +kernel
theorem dX1_takeLetter_25 : decode cX1_takeLetter 25 = .ok (.bipush 97, 2) := by decide +kernel
theorem dX1_takeLetter_27 : decode cX1_takeLetter 27 = .ok (.isub, 1) := by decide +kernel
theorem dX1_takeLetter_28 : decode cX1_takeLetter 28 = .ok (.putfield 28, 3) := by decide +kernel
theorem dX1_takeLetter_31 : decode cX1_takeLetter 31 = .ok (.aload_n 0, 1) := by decide +kernel
theorem dX1_takeLetter_32 : decode cX1_takeLetter 32 = .ok (.dup, 1) := by decide +kernel
theorem dX1_takeLetter_33 : decode cX1_takeLetter 33 = .ok (.getfield 18, 3) := by decide +kernel
theorem dX1_takeLetter_36 : decode cX1_takeLetter 36 = .ok (.iconst 1, 1) := by decide +kernel
theorem dX1_takeLetter_37 : decode cX1_takeLetter 37 = .ok (.iadd, 1) := by decide +kernel
theorem dX1_takeLetter_38 : decode cX1_takeLetter 38 = .ok (.putfield 18, 3) := by decide +kernel
theorem dX1_takeLetter_41 : decode cX1_takeLetter 41 = .ok (.iconst 1, 1) := by decide +kernel
theorem dX1_takeLetter_42 : decode cX1_takeLetter 42 = .ok (.ireturn, 1) := by decide +kernel
set_option maxRecDepth 20000 in
theorem ggX1_takeNumber_X1_takeDigit : GoodIn wsX1_takeNumber wsX1_takeDigit := goodIn_r _ [7, 1, 2, 8, 9, 10, 6, 11, 12, 13, 14, 15, 16, 17, 18, 19, 20, 21, 22, 23, 24, 25, 26, 27, 28, 29, 30, 31, 32, 33, 34, 35, 36, 37, 38, 39, 40, 41, 42, 43, 44, 45, 46, 47, 48, 49, 50, 51, 52, 53, 54, 55, 56, 57, 58, 59, 60, 61, 62, 63, 64, 65, 66, 67, 68, 69, 70, 71] (by decide +kernel) (by decide +kernel)
set_option maxRecDepth 20000 in
theorem gX1_takeNumber_X1_takeDigit : GoodIn wsX1_takeNumber (wsV RX1 52 RX1 yX1_takeDigit wsX1_takeDigit) := goodIn_app (goodIn_of _ (by decide +kernel)) ggX1_takeNumber_X1_takeDigit
set_option maxRecDepth 20000 in
theorem ggX1_takeNumber_X1_isAtDigit : GoodIn wsX1_takeNumber wsX1_isAtDigit := goodIn_r _ [11, 12, 13, 14, 6, 15, 2, 16, 17, 18, 19, 20, 21, 22, 23, 24, 25, 26, 27, 28, 29, 30, 31, 32, 33, 34, 35, 36, 37, 38, 39, 40, 41, 42, 43, 44, 45, 46, 47, 48, 49, 50, 51, 52, 53, 54, 55, 56, 57, 58, 59, 60, 61, 62, 63, 64, 65, 66, 67, 68, 69, 70, 71] (by decide +kernel) (by decide +kernel)
set_option maxRecDepth 20000 in
theorem gX1_takeNumber_X1_isAtDigit : GoodIn wsX1_takeNumber (wsV RX1 68 RX1 yX1_isAtDigit wsX1_isAtDigit) := goodIn_app (goodIn_of _ (by decide +kernel)) ggX1_takeNumber_X1_isAtDigit
set_option maxRecDepth 20000 in
theorem ggX1_takeNumber_X1_peek : GoodIn wsX1_takeNumber wsX1_peek := goodIn_r _ [15, 2, 16, 17, 18, 19, 20, 21, 22, 23, 24, 25, 26, 27, 28, 29, 30, 31, 32, 33, 34, 35, 36, 37, 38, 39, 40, 41, 42, 43, 44, 45, 46, 47, 48, 49, 50, 51, 52, 53, 54, 55, 56, 57, 58, 59, 60, 61, 62, 63, 64, 65, 66, 67, 68, 69, 70, 71] (by decide +kernel) (by decide +kernel)
set_option maxRecDepth 20000 in
theorem gX1_takeNumber_X1_peek : GoodIn wsX1_takeNumber (wsV RX1 49 RX1 yX1_peek wsX1_peek) := goodIn_app (goodIn_of _ (by decide +kernel)) ggX1_takeNumber_X1_peek
theorem dX1_takeNumber_0 : decode cX1_takeNumber 0 = .ok (.aload_n 0, 1) := by decide +kernel
theorem dX1_takeNumber_1 : decode cX1_takeNumber 1 = .ok (.invokevirtual 52, 3) := by decide +kernel
theorem dX1_takeNumber_4 : decode cX1_takeNumber 4 = .ok (.ifCond .ne 5, 3) := by decide +kernel
theorem dX1_takeNumber_7 : decode cX1_takeNumber 7 = .ok (.iconst 0, 1) := by decide +kernel
theorem dX1_takeNumber_8 : decode cX1_takeNumber 8 = .ok (.ireturn, 1) := by decide +kernel
theorem dX1_takeNumber_9 : decode cX1_takeNumber 9 = .ok (.aload_n 0, 1) := by decide +kernel
theorem dX1_takeNumber_10 : decode cX1_takeNumber 10 = .ok (.invokevirtual 68, 3) := by decide +kernel
theorem dX1_takeNumber_13 : decode cX1_takeNumber 13 = .ok (.ifCond .eq 32, 3) := by decide +kernel
theorem dX1_takeNumber_16 : decode cX1_takeNumber 16 = .ok (.aload_n 0, 1) := by decide +kernel
theorem dX1_takeNumber_17 : decode cX1_takeNumber 17 = .ok (.aload_n 0, 1) := by decide +kernel
theorem dX1_takeNumber_18 : decode cX1_takeNumber 18 = .ok (.getfield 25, 3) := by decide +kernel
theorem dX1_takeNumber_21 : decode cX1_takeNumber 21 = .ok (.bipush 10, 2) := by decide +kernel
theorem dX1_takeNumber_23 : decode cX1_takeNumber 23 = .ok (.imul, 1) := by decide +kernel
theorem dX1_takeNumber_24 : decode cX1_takeNumber 24 = .ok (.aload_n 0, 1) := by decide +kernel
theorem dX1_takeNumber_25 : decode cX1_takeNumber 25 = .ok (.invokevirtual 49, 3) := by decide +kernel
theorem dX1_takeNumber_28 : decode cX1_takeNumber 28 = .ok (.iadd, 1) := by decide +kernel
theorem dX1_takeNumber_29 : decode cX1_takeNumber 29 = .ok (.bipush 48, 2) := by decide +kernel
theorem dX1_takeNumber_31 : decode cX1_takeNumber 31 = .ok (.isub, 1) := by decide +kernel
theorem dX1_takeNumber_32 : decode cX1_takeNumber 32 = .ok (.putfield 25, 3) := by decide +kernel
theorem dX1_takeNumber_35 : decode cX1_takeNumber 35 = .ok (.aload_n 0, 1) := by decide +kernel
theorem dX1_takeNumber_36 : decode cX1_takeNumber 36 = .ok (.dup, 1) := by decide +kernel
theorem dX1_takeNumber_37 : decode cX1_takeNumber 37 = .ok (.getfield 18, 3) := by decide +kernel
theorem dX1_takeNumber_40 : decode cX1_takeNumber 40 = .ok (.iconst 1, 1) := by decide +kernel
theorem dX1_takeNumber_41 : decode cX1_takeNumber 41 = .ok (.iadd, 1) := by decide +kernel
theorem dX1_takeNumber_42 : decode cX1_takeNumber 42 = .ok (.putfield 18, 3) := by decide +kernel
theorem dX1_takeNumber_45 : decode cX1_takeNumber 45 = .ok (.iconst 1, 1) := by decide +kernel
theorem dX1_takeNumber_46 : decode cX1_takeNumber 46 = .ok (.ireturn, 1) := by decide +kernel
set_option maxRecDepth 20000 in
theorem ggX1_takeRoad_X1_takeDigit : GoodIn wsX1_takeRoad wsX1_takeDigit := goodIn_r _ [8, 1, 9, 10, 11, 12, 7, 13, 14, 15, 16, 17, 18, 19, 20, 21, 22, 23, 24, 25, 26, 27, 28, 29, 30, 31, 32, 33, 34, 35, 36, 37, 38, 39, 40, 41, 42, 43, 44, 45, 46, 47, 48, 49, 50, 51, 52, 53, 54, 55, 56, 57, 58, 59, 60, 61, 62, 63, 68, 69, 70, 71, 72, 73, 74, 75, 76, 77] (by decide +kernel) (by decide +kernel)
set_option maxRecDepth 20000 in
theorem gX1_takeRoad_X1_takeDigit : GoodIn wsX1_takeRoad (wsV RX1 52 RX1 yX1_takeDigit wsX1_takeDigit) := goodIn_app (goodIn_of _ (by decide +kernel)) ggX1_takeRoad_X1_takeDigit
set_option maxRecDepth 20000 in
theorem ggX1_takeRoad_X1_peek : GoodIn wsX1_takeRoad wsX1_peek := goodIn_r _ [17, 9, 18, 19, 20, 21, 22, 23, 24, 25, 26, 27, 28, 29, 30, 31, 32, 33, 34, 35, 36, 37, 38, 39, 40, 41, 42, 43, 44, 45, 46, 47, 48, 49, 50, 51, 52, 53, 54, 55, 56, 57, 58, 59, 60, 61, 62, 63, 68, 69, 70, 71, 72, 73, 74, 75, 76, 77] (by decide +kernel) (by decide +kernel)
set_option maxRecDepth 20000 in
theorem gX1_takeRoad_X1_peek : GoodIn wsX1_takeRoad (wsV RX1 49 RX1 yX1_peek wsX1_peek) := goodIn_app (goodIn_of _ (by decide +kernel)) ggX1_takeRoad_X1_peek
set_option maxRecDepth 20000 in
theorem ggX1_takeRoad_X1_takeSign : GoodIn wsX1_takeRoad wsX1_takeSign := goodIn_r _ [67, 9, 14, 15, 16, 7, 17, 18, 19, 20, 21, 22, 23, 24, 25, 26, 27, 28, 29, 30, 31, 32, 33, 34, 35, 36, 37, 38, 39, 40, 41, 42, 43, 44, 45, 46, 47, 48, 49, 50, 51, 52, 53, 54, 55, 56, 57, 58, 59, 60, 61, 62, 63, 68, 69, 70, 71, 72, 73, 74, 75, 76, 77] (by decide +kernel) (by decide +kernel)
set_option maxRecDepth 20000 in
theorem gX1_takeRoad_X1_takeSign : GoodIn wsX1_takeRoad (wsV RX1 41 RX1 yX1_takeSign wsX1_takeSign) := goodIn_app (goodIn_of _ (by decide +kernel)) ggX1_takeRoad_X1_takeSign
theorem dX1_takeRoad_0 : decode cX1_takeRoad 0 = .ok (.aload_n 0, 1) := by decide +kernel
theorem dX1_takeRoad_1 : decode cX1_takeRoad 1 = .ok (.invokevirtual 52, 3) := by decide +kernel
theorem dX1_takeRoad_4 : decode cX1_takeRoad 4 = .ok (.ifCond .ne 5, 3) := by decide +kernel
theorem dX1_takeRoad_7 : decode cX1_takeRoad 7 = .ok (.iconst 0, 1) := by decide +kernel
theorem dX1_takeRoad_8 : decode cX1_takeRoad 8 = .ok (.ireturn, 1) := by decide +kernel
theorem dX1_takeRoad_9 : decode cX1_takeRoad 9 = .ok (.aload_n 0, 1) := by decide +kernel
theorem dX1_takeRoad_10 : decode cX1_takeRoad 10 = .ok (.getfield 25, 3) := by decide +kernel
theorem dX1_takeRoad_13 : decode cX1_takeRoad 13 = .ok (.istore_n 1, 1) := by decide +kernel
theorem dX1_takeRoad_14 : decode cX1_takeRoad 14 = .ok (.aload_n 0, 1) := by decide +kernel
theorem dX1_takeRoad_15 : decode cX1_takeRoad 15 = .ok (.invokevirtual 52, 3) := by decide +kernel
theorem dX1_takeRoad_18 : decode cX1_takeRoad 18 = .ok (.ifCond .ne 5, 3) := by decide +kernel
theorem dX1_takeRoad_21 : decode cX1_takeRoad 21 = .ok (.iconst 0, 1) := by decide +kernel
theorem dX1_takeRoad_22 : decode cX1_takeRoad 22 = .ok (.ireturn, 1) := by decide +kernel
theorem dX1_takeRoad_23 : decode cX1_takeRoad 23 = .ok (.aload_n 0, 1) := by decide +kernel
theorem dX1_takeRoad_24 : decode cX1_takeRoad 24 = .ok (.aload_n 0, 1) := by decide +kernel
theorem dX1_takeRoad_25 : decode cX1_takeRoad 25 = .ok (.getfield 25, 3) := by decide +kernel
theorem dX1_takeRoad_28 : decode cX1_takeRoad 28 = .ok (.putfield 28, 3) := by decide +kernel
theorem dX1_takeRoad_31 : decode cX1_takeRoad 31 = .ok (.aload_n 0, 1) := by decide +kernel
theorem dX1_takeRoad_32 : decode cX1_takeRoad 32 = .ok (.iload_n 1, 1) := by decide +kernel
theorem dX1_takeRoad_33 : decode cX1_takeRoad 33 = .ok (.putfield 25, 3) := by decide +kernel
theorem dX1_takeRoad_36 : decode cX1_takeRoad 36 = .ok (.aload_n 0, 1) := by decide +kernel
theorem dX1_takeRoad_37 : decode cX1_takeRoad 37 = .ok (.aload_n 0, 1) := by decide +kernel
theorem dX1_takeRoad_38 : decode cX1_takeRoad 38 = .ok (.invokevirtual 49, 3) := by decide +kernel
theorem dX1_takeRoad_41 : decode cX1_takeRoad 41 = .ok (.bipush 43, 2) := by decide +kernel
theorem dX1_takeRoad_43 : decode cX1_takeRoad 43 = .ok (.if_icmp .ne 7, 3) := by decide +kernel
theorem dX1_takeRoad_46 : decode cX1_takeRoad 46 = .ok (.iconst 1, 1) := by decide +kernel
theorem dX1_takeRoad_47 : decode cX1_takeRoad 47 = .ok (.goto 4, 3) := by decide +kernel
theorem dX1_takeRoad_50 : decode cX1_takeRoad 50 = .ok (.iconst 0, 1) := by decide +kernel
theorem dX1_takeRoad_51 : decode cX1_takeRoad 51 = .ok (.putfield 31, 3) := by decide +kernel
theorem dX1_takeRoad_54 : decode cX1_takeRoad 54 = .ok (.aload_n 0, 1) := by decide +kernel
theorem dX1_takeRoad_55 : decode cX1_takeRoad 55 = .ok (.bipush 43, 2) := by decide +kernel
theorem dX1_takeRoad_57 : decode cX1_takeRoad 57 = .ok (.invokevirtual 41, 3) := by decide +kernel
theorem dX1_takeRoad_60 : decode cX1_takeRoad 60 = .ok (.ifCond .ne 12, 3) := by decide +kernel
theorem dX1_takeRoad_63 : decode cX1_takeRoad 63 = .ok (.aload_n 0, 1) := by decide +kernel
theorem dX1_takeRoad_64 : decode cX1_takeRoad 64 = .ok (.bipush 45, 2) := by decide +kernel
theorem dX1_takeRoad_66 : decode cX1_takeRoad 66 = .ok (.invokevirtual 41, 3) := by decide +kernel
theorem dX1_takeRoad_69 : decode cX1_takeRoad 69 = .ok (.ifCond .eq 7, 3) := by decide +kernel
theorem dX1_takeRoad_72 : decode cX1_takeRoad 72 = .ok (.iconst 1, 1) := by decide +kernel
theorem dX1_takeRoad_73 : decode cX1_takeRoad 73 = .ok (.goto 4, 3) := by decide +kernel
theorem dX1_takeRoad_76 : decode cX1_takeRoad 76 = .ok (.iconst 0, 1) := by decide +kernel
theorem dX1_takeRoad_77 : decode cX1_takeRoad 77 = .ok (.ireturn, 1) := by decide +kernel
set_option maxRecDepth 20000 in
theorem ggX2_init_X0_init : GoodIn wsX2_init wsX0_init := goodIn_r _ [29, 30, 2, 3, 31, 32, 33, 34, 35, 36, 37, 38, 39, 40, 41, 42, 43, 44, 45, 46, 47, 79, 80, 81, 82, 83, 84, 85, 86, 87, 88, 89, 90, 91, 92, 93, 94] (by decide +kernel) (by decide +kernel)
set_option maxRecDepth 20000 in
theorem gX2_init_X0_init : GoodIn wsX2_init (wsX0_init) := ggX2_init_X0_init
