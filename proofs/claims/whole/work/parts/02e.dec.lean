theorem dX6_readEquations_135 : decode cX6_readEquations 135 = .ok (.goto 4, 3) := by decide +kernel
theorem dX6_readEquations_138 : decode cX6_readEquations 138 = .ok (.iconst 0, 1) := by decide +kernel
theorem dX6_readEquations_139 : decode cX6_readEquations 139 = .ok (.iastore, 1) := by decide +kernel
theorem dX6_readEquations_140 : decode cX6_readEquations 140 = .ok (.iinc 5 1, 3) := by decide +kernel
theorem dX6_readEquations_143 : decode cX6_readEquations 143 = .ok (.goto (-73), 3) := by decide +kernel
theorem dX6_readEquations_146 : decode cX6_readEquations 146 = .ok (.aload_n 0, 1) := by decide +kernel
theorem dX6_readEquations_147 : decode cX6_readEquations 147 = .ok (.getfield 43, 3) := by decide +kernel
theorem dX6_readEquations_150 : decode cX6_readEquations 150 = .ok (.iload_n 1, 1) := by decide +kernel
theorem dX6_readEquations_151 : decode cX6_readEquations 151 = .ok (.dup2, 1) := by decide +kernel
theorem dX6_readEquations_152 : decode cX6_readEquations 152 = .ok (.iaload, 1) := by decide +kernel
theorem dX6_readEquations_153 : decode cX6_readEquations 153 = .ok (.iconst 1, 1) := by decide +kernel
theorem dX6_readEquations_154 : decode cX6_readEquations 154 = .ok (.iadd, 1) := by decide +kernel
theorem dX6_readEquations_155 : decode cX6_readEquations 155 = .ok (.iastore, 1) := by decide +kernel
theorem dX6_readEquations_156 : decode cX6_readEquations 156 = .ok (.iinc 2 1, 3) := by decide +kernel
theorem dX6_readEquations_159 : decode cX6_readEquations 159 = .ok (.goto (-140), 3) := by decide +kernel
theorem dX6_readEquations_162 : decode cX6_readEquations 162 = .ok (.return_, 1) := by decide +kernel
set_option maxRecDepth 20000 in
theorem ggX6_analyse_X6_meet : GoodIn wsX6_analyse wsX6_meet := goodIn_r _ [17, 5, 18, 3, 19, 20, 9, 2, 10, 21, 22, 23, 16, 24, 25, 26, 27, 28, 29, 30, 31, 32, 33, 4, 34, 35, 36, 37, 38, 39, 40, 41, 42, 43, 44, 45, 46, 47, 48, 49, 50, 73, 74, 75, 76, 77, 78, 79, 80, 81, 82, 83, 84, 85, 86, 87, 88, 89, 90, 91, 92, 93, 94, 95, 96, 97, 98, 99, 100, 101] (by decide +kernel) (by decide +kernel)
set_option maxRecDepth 20000 in
theorem gX6_analyse_X6_meet : GoodIn wsX6_analyse (wsV RX6 139 RX6 yX6_meet wsX6_meet) := goodIn_app (goodIn_of _ (by decide +kernel)) ggX6_analyse_X6_meet
set_option maxRecDepth 20000 in
theorem ggX6_analyse_X6_pass : GoodIn wsX6_analyse wsX6_pass := goodIn_r _ [54, 55, 5, 19, 56, 57, 58, 59, 16, 60, 61, 62, 63, 64, 65, 66, 43, 44, 45, 46, 13, 14, 15, 17, 18, 3, 20, 9, 2, 10, 21, 22, 23, 24, 25, 26, 27, 28, 29, 30, 31, 32, 33, 4, 34, 35, 36, 37, 38, 39, 40, 41, 42, 47, 48, 49, 50, 73, 74, 75, 76, 77, 78, 79, 80, 81, 82, 83, 84, 85, 86, 87, 88, 89, 90, 91, 92, 93, 94, 95, 96, 97, 98, 99, 100, 101] (by decide +kernel) (by decide +kernel)
set_option maxRecDepth 20000 in
theorem gX6_analyse_X6_pass : GoodIn wsX6_analyse (wsV RX6 142 RX6 yX6_pass wsX6_pass) := goodIn_app (goodIn_of _ (by decide +kernel)) ggX6_analyse_X6_pass
set_option maxRecDepth 20000 in
theorem ggX6_analyse_X6_readEquations : GoodIn wsX6_analyse wsX6_readEquations := goodIn_r _ [70, 71, 4, 34, 72, 29, 21, 22, 23, 16, 24, 18, 3, 19, 25, 26, 27, 28, 30, 31, 32, 33, 35, 36, 37, 38, 39, 40, 41, 42, 43, 44, 45, 46, 47, 48, 49, 50, 73, 74, 75, 76, 77, 78, 79, 80, 81, 82, 83, 84, 85, 86, 87, 88, 89, 90, 91, 92, 93, 94, 95, 96, 97, 98, 99, 100, 101] (by decide +kernel) (by decide +kernel)
set_option maxRecDepth 20000 in
theorem gX6_analyse_X6_readEquations : GoodIn wsX6_analyse (wsV RX6 145 RX6 yX6_readEquations wsX6_readEquations) := goodIn_app (goodIn_of _ (by decide +kernel)) ggX6_analyse_X6_readEquations
theorem dX6_analyse_0 : decode cX6_analyse 0 = .ok (.aload_n 0, 1) := by decide +kernel
theorem dX6_analyse_1 : decode cX6_analyse 1 = .ok (.iconst 0, 1) := by decide +kernel
theorem dX6_analyse_2 : decode cX6_analyse 2 = .ok (.putfield 74, 3) := by decide +kernel
theorem dX6_analyse_5 : decode cX6_analyse 5 = .ok (.aload_n 0, 1) := by decide +kernel
theorem dX6_analyse_6 : decode cX6_analyse 6 = .ok (.iconst 0, 1) := by decide +kernel
theorem dX6_analyse_7 : decode cX6_analyse 7 = .ok (.putfield 133, 3) := by decide +kernel
theorem dX6_analyse_10 : decode cX6_analyse 10 = .ok (.iconst 0, 1) := by decide +kernel
theorem dX6_analyse_11 : decode cX6_analyse 11 = .ok (.istore_n 1, 1) := by decide +kernel
theorem dX6_analyse_12 : decode cX6_analyse 12 = .ok (.iload_n 1, 1) := by decide +kernel
theorem dX6_analyse_13 : decode cX6_analyse 13 = .ok (.bipush 8, 2) := by decide +kernel
theorem dX6_analyse_15 : decode cX6_analyse 15 = .ok (.if_icmp .ge 16, 3) := by decide +kernel
theorem dX6_analyse_18 : decode cX6_analyse 18 = .ok (.aload_n 0, 1) := by decide +kernel
theorem dX6_analyse_19 : decode cX6_analyse 19 = .ok (.getfield 28, 3) := by decide +kernel
theorem dX6_analyse_22 : decode cX6_analyse 22 = .ok (.iload_n 1, 1) := by decide +kernel
theorem dX6_analyse_23 : decode cX6_analyse 23 = .ok (.iconst 0, 1) := by decide +kernel
theorem dX6_analyse_24 : decode cX6_analyse 24 = .ok (.iastore, 1) := by decide +kernel
theorem dX6_analyse_25 : decode cX6_analyse 25 = .ok (.iinc 1 1, 3) := by decide +kernel
theorem dX6_analyse_28 : decode cX6_analyse 28 = .ok (.goto (-16), 3) := by decide +kernel
theorem dX6_analyse_31 : decode cX6_analyse 31 = .ok (.iconst 0, 1) := by decide +kernel
theorem dX6_analyse_32 : decode cX6_analyse 32 = .ok (.istore_n 1, 1) := by decide +kernel
theorem dX6_analyse_33 : decode cX6_analyse 33 = .ok (.iload_n 1, 1) := by decide +kernel
theorem dX6_analyse_34 : decode cX6_analyse 34 = .ok (.aload_n 0, 1) := by decide +kernel
theorem dX6_analyse_35 : decode cX6_analyse 35 = .ok (.getfield 71, 3) := by decide +kernel
theorem dX6_analyse_38 : decode cX6_analyse 38 = .ok (.if_icmp .gt 51, 3) := by decide +kernel
theorem dX6_analyse_41 : decode cX6_analyse 41 = .ok (.iconst 0, 1) := by decide +kernel
theorem dX6_analyse_42 : decode cX6_analyse 42 = .ok (.istore_n 2, 1) := by decide +kernel
theorem dX6_analyse_43 : decode cX6_analyse 43 = .ok (.iload_n 2, 1) := by decide +kernel
theorem dX6_analyse_44 : decode cX6_analyse 44 = .ok (.iconst 5, 1) := by decide +kernel
theorem dX6_analyse_45 : decode cX6_analyse 45 = .ok (.if_icmp .ge 29, 3) := by decide +kernel
theorem dX6_analyse_48 : decode cX6_analyse 48 = .ok (.aload_n 0, 1) := by decide +kernel
theorem dX6_analyse_49 : decode cX6_analyse 49 = .ok (.getfield 64, 3) := by decide +kernel
theorem dX6_analyse_52 : decode cX6_analyse 52 = .ok (.iload_n 2, 1) := by decide +kernel
theorem dX6_analyse_53 : decode cX6_analyse 53 = .ok (.iload_n 2, 1) := by decide +kernel
theorem dX6_analyse_54 : decode cX6_analyse 54 = .ok (.ifCond .eq 8, 3) := by decide +kernel
theorem dX6_analyse_57 : decode cX6_analyse 57 = .ok (.iload_n 2, 1) := by decide +kernel
theorem dX6_analyse_58 : decode cX6_analyse 58 = .ok (.iload_n 1, 1) := by decide +kernel
theorem dX6_analyse_59 : decode cX6_analyse 59 = .ok (.if_icmp .ne 7, 3) := by decide +kernel
theorem dX6_analyse_62 : decode cX6_analyse 62 = .ok (.iconst 1, 1) := by decide +kernel
theorem dX6_analyse_63 : decode cX6_analyse 63 = .ok (.goto 4, 3) := by decide +kernel
theorem dX6_analyse_66 : decode cX6_analyse 66 = .ok (.iconst 0, 1) := by decide +kernel
theorem dX6_analyse_67 : decode cX6_analyse 67 = .ok (.iastore, 1) := by decide +kernel
theorem dX6_analyse_68 : decode cX6_analyse 68 = .ok (.iinc 2 1, 3) := by decide +kernel
theorem dX6_analyse_71 : decode cX6_analyse 71 = .ok (.goto (-28), 3) := by decide +kernel
theorem dX6_analyse_74 : decode cX6_analyse 74 = .ok (.aload_n 0, 1) := by decide +kernel
theorem dX6_analyse_75 : decode cX6_analyse 75 = .ok (.aload_n 0, 1) := by decide +kernel
theorem dX6_analyse_76 : decode cX6_analyse 76 = .ok (.getfield 113, 3) := by decide +kernel
theorem dX6_analyse_79 : decode cX6_analyse 79 = .ok (.iconst (-1), 1) := by decide +kernel
theorem dX6_analyse_80 : decode cX6_analyse 80 = .ok (.invokevirtual 139, 3) := by decide +kernel
theorem dX6_analyse_83 : decode cX6_analyse 83 = .ok (.iinc 1 1, 3) := by decide +kernel
theorem dX6_analyse_86 : decode cX6_analyse 86 = .ok (.goto (-53), 3) := by decide +kernel
theorem dX6_analyse_89 : decode cX6_analyse 89 = .ok (.iconst 0, 1) := by decide +kernel
theorem dX6_analyse_90 : decode cX6_analyse 90 = .ok (.istore_n 1, 1) := by decide +kernel
theorem dX6_analyse_91 : decode cX6_analyse 91 = .ok (.iload_n 1, 1) := by decide +kernel
theorem dX6_analyse_92 : decode cX6_analyse 92 = .ok (.aload_n 0, 1) := by decide +kernel
theorem dX6_analyse_93 : decode cX6_analyse 93 = .ok (.getfield 133, 3) := by decide +kernel
theorem dX6_analyse_96 : decode cX6_analyse 96 = .ok (.if_icmp .ge 57, 3) := by decide +kernel
theorem dX6_analyse_99 : decode cX6_analyse 99 = .ok (.iconst 0, 1) := by decide +kernel
theorem dX6_analyse_100 : decode cX6_analyse 100 = .ok (.istore_n 2, 1) := by decide +kernel
theorem dX6_analyse_101 : decode cX6_analyse 101 = .ok (.iload_n 2, 1) := by decide +kernel
theorem dX6_analyse_102 : decode cX6_analyse 102 = .ok (.aload_n 0, 1) := by decide +kernel
theorem dX6_analyse_103 : decode cX6_analyse 103 = .ok (.getfield 103, 3) := by decide +kernel
theorem dX6_analyse_106 : decode cX6_analyse 106 = .ok (.if_icmp .ge 41, 3) := by decide +kernel
theorem dX6_analyse_109 : decode cX6_analyse 109 = .ok (.aload_n 0, 1) := by decide +kernel
theorem dX6_analyse_110 : decode cX6_analyse 110 = .ok (.getfield 13, 3) := by decide +kernel
theorem dX6_analyse_113 : decode cX6_analyse 113 = .ok (.iload_n 2, 1) := by decide +kernel
theorem dX6_analyse_114 : decode cX6_analyse 114 = .ok (.iaload, 1) := by decide +kernel
theorem dX6_analyse_115 : decode cX6_analyse 115 = .ok (.aload_n 0, 1) := by decide +kernel
theorem dX6_analyse_116 : decode cX6_analyse 116 = .ok (.getfield 37, 3) := by decide +kernel
theorem dX6_analyse_119 : decode cX6_analyse 119 = .ok (.iload_n 1, 1) := by decide +kernel
theorem dX6_analyse_120 : decode cX6_analyse 120 = .ok (.iaload, 1) := by decide +kernel
theorem dX6_analyse_121 : decode cX6_analyse 121 = .ok (.if_icmp .ne 20, 3) := by decide +kernel
theorem dX6_analyse_124 : decode cX6_analyse 124 = .ok (.aload_n 0, 1) := by decide +kernel
theorem dX6_analyse_125 : decode cX6_analyse 125 = .ok (.iload_n 2, 1) := by decide +kernel
theorem dX6_analyse_126 : decode cX6_analyse 126 = .ok (.aload_n 0, 1) := by decide +kernel
theorem dX6_analyse_127 : decode cX6_analyse 127 = .ok (.getfield 37, 3) := by decide +kernel
theorem dX6_analyse_130 : decode cX6_analyse 130 = .ok (.iload_n 1, 1) := by decide +kernel
theorem dX6_analyse_131 : decode cX6_analyse 131 = .ok (.iaload, 1) := by decide +kernel
theorem dX6_analyse_132 : decode cX6_analyse 132 = .ok (.aload_n 0, 1) := by decide +kernel
theorem dX6_analyse_133 : decode cX6_analyse 133 = .ok (.getfield 40, 3) := by decide +kernel
theorem dX6_analyse_136 : decode cX6_analyse 136 = .ok (.iload_n 1, 1) := by decide +kernel
theorem dX6_analyse_137 : decode cX6_analyse 137 = .ok (.iaload, 1) := by decide +kernel
theorem dX6_analyse_138 : decode cX6_analyse 138 = .ok (.invokevirtual 142, 3) := by decide +kernel
theorem dX6_analyse_141 : decode cX6_analyse 141 = .ok (.iinc 2 1, 3) := by decide +kernel
theorem dX6_analyse_144 : decode cX6_analyse 144 = .ok (.goto (-43), 3) := by decide +kernel
theorem dX6_analyse_147 : decode cX6_analyse 147 = .ok (.iinc 1 1, 3) := by decide +kernel
theorem dX6_analyse_150 : decode cX6_analyse 150 = .ok (.goto (-59), 3) := by decide +kernel
theorem dX6_analyse_153 : decode cX6_analyse 153 = .ok (.iconst 0, 1) := by decide +kernel
theorem dX6_analyse_154 : decode cX6_analyse 154 = .ok (.istore_n 1, 1) := by decide +kernel
theorem dX6_analyse_155 : decode cX6_analyse 155 = .ok (.iload_n 1, 1) := by decide +kernel
theorem dX6_analyse_156 : decode cX6_analyse 156 = .ok (.aload_n 0, 1) := by decide +kernel
theorem dX6_analyse_157 : decode cX6_analyse 157 = .ok (.getfield 67, 3) := by decide +kernel
theorem dX6_analyse_160 : decode cX6_analyse 160 = .ok (.if_icmp .ge 14, 3) := by decide +kernel
theorem dX6_analyse_163 : decode cX6_analyse 163 = .ok (.aload_n 0, 1) := by decide +kernel
theorem dX6_analyse_164 : decode cX6_analyse 164 = .ok (.iload_n 1, 1) := by decide +kernel
theorem dX6_analyse_165 : decode cX6_analyse 165 = .ok (.invokevirtual 145, 3) := by decide +kernel
theorem dX6_analyse_168 : decode cX6_analyse 168 = .ok (.iinc 1 1, 3) := by decide +kernel
theorem dX6_analyse_171 : decode cX6_analyse 171 = .ok (.goto (-16), 3) := by decide +kernel
theorem dX6_analyse_174 : decode cX6_analyse 174 = .ok (.aload_n 0, 1) := by decide +kernel
theorem dX6_analyse_175 : decode cX6_analyse 175 = .ok (.iconst 1, 1) := by decide +kernel
theorem dX6_analyse_176 : decode cX6_analyse 176 = .ok (.putfield 109, 3) := by decide +kernel
theorem dX6_analyse_179 : decode cX6_analyse 179 = .ok (.aload_n 0, 1) := by decide +kernel
theorem dX6_analyse_180 : decode cX6_analyse 180 = .ok (.getfield 133, 3) := by decide +kernel
theorem dX6_analyse_183 : decode cX6_analyse 183 = .ok (.ireturn, 1) := by decide +kernel
set_option maxRecDepth 20000 in
theorem ggX6_asked_X6_isNode : GoodIn wsX6_asked wsX6_isNode := goodIn_r _ [6, 7, 8, 9, 10, 11, 12, 13, 14, 15, 16, 17, 18, 19, 20, 21, 22, 23, 24, 25, 26, 27, 28, 29, 30, 31, 32, 33, 34, 35, 36] (by decide +kernel) (by decide +kernel)
set_option maxRecDepth 20000 in
theorem gX6_asked_X6_isNode : GoodIn wsX6_asked (wsV RX6 99 RX6 yX6_isNode wsX6_isNode) := goodIn_app (goodIn_of _ (by decide +kernel)) ggX6_asked_X6_isNode
theorem dX6_asked_0 : decode cX6_asked 0 = .ok (.aload_n 0, 1) := by decide +kernel
theorem dX6_asked_1 : decode cX6_asked 1 = .ok (.iload_n 1, 1) := by decide +kernel
theorem dX6_asked_2 : decode cX6_asked 2 = .ok (.invokevirtual 99, 3) := by decide +kernel
theorem dX6_asked_5 : decode cX6_asked 5 = .ok (.ifCond .ne 7, 3) := by decide +kernel
theorem dX6_asked_8 : decode cX6_asked 8 = .ok (.iconst 1, 1) := by decide +kernel
theorem dX6_asked_9 : decode cX6_asked 9 = .ok (.goto 15, 3) := by decide +kernel
theorem dX6_asked_12 : decode cX6_asked 12 = .ok (.aload_n 0, 1) := by decide +kernel
theorem dX6_asked_13 : decode cX6_asked 13 = .ok (.getfield 109, 3) := by decide +kernel
theorem dX6_asked_16 : decode cX6_asked 16 = .ok (.ifCond .ne 7, 3) := by decide +kernel
theorem dX6_asked_19 : decode cX6_asked 19 = .ok (.iconst 2, 1) := by decide +kernel
theorem dX6_asked_20 : decode cX6_asked 20 = .ok (.goto 4, 3) := by decide +kernel
theorem dX6_asked_23 : decode cX6_asked 23 = .ok (.iconst 0, 1) := by decide +kernel
theorem dX6_asked_24 : decode cX6_asked 24 = .ok (.ireturn, 1) := by decide +kernel
set_option maxRecDepth 20000 in
theorem ggX6_points_X6_asked : GoodIn wsX6_points wsX6_asked := goodIn_r _ [7, 8, 9, 10, 11, 6, 12, 13, 14, 15, 16, 17, 18, 19, 20, 21, 22, 23, 24, 25, 26, 27, 28, 29, 30, 31, 32, 33, 34, 35, 36, 37, 38, 39, 40, 41, 42] (by decide +kernel) (by decide +kernel)
set_option maxRecDepth 20000 in
theorem gX6_points_X6_asked : GoodIn wsX6_points (wsV RX6 148 RX6 yX6_asked wsX6_asked) := goodIn_app (goodIn_of _ (by decide +kernel)) ggX6_points_X6_asked
theorem dX6_points_0 : decode cX6_points 0 = .ok (.aload_n 0, 1) := by decide +kernel
theorem dX6_points_1 : decode cX6_points 1 = .ok (.aload_n 0, 1) := by decide +kernel
theorem dX6_points_2 : decode cX6_points 2 = .ok (.iload_n 1, 1) := by decide +kernel
theorem dX6_points_3 : decode cX6_points 3 = .ok (.invokevirtual 148, 3) := by decide +kernel
theorem dX6_points_6 : decode cX6_points 6 = .ok (.putfield 74, 3) := by decide +kernel
theorem dX6_points_9 : decode cX6_points 9 = .ok (.aload_n 0, 1) := by decide +kernel
theorem dX6_points_10 : decode cX6_points 10 = .ok (.getfield 74, 3) := by decide +kernel
theorem dX6_points_13 : decode cX6_points 13 = .ok (.ifCond .ne 12, 3) := by decide +kernel
theorem dX6_points_16 : decode cX6_points 16 = .ok (.aload_n 0, 1) := by decide +kernel
theorem dX6_points_17 : decode cX6_points 17 = .ok (.getfield 28, 3) := by decide +kernel
theorem dX6_points_20 : decode cX6_points 20 = .ok (.iload_n 1, 1) := by decide +kernel
theorem dX6_points_21 : decode cX6_points 21 = .ok (.iaload, 1) := by decide +kernel
theorem dX6_points_22 : decode cX6_points 22 = .ok (.goto 4, 3) := by decide +kernel
theorem dX6_points_25 : decode cX6_points 25 = .ok (.iconst 0, 1) := by decide +kernel
theorem dX6_points_26 : decode cX6_points 26 = .ok (.ireturn, 1) := by decide +kernel
set_option maxRecDepth 20000 in
theorem ggX6_point_X6_asked : GoodIn wsX6_point wsX6_asked := goodIn_r _ [10, 11, 12, 13, 14, 9, 15, 16, 17, 18, 19, 20, 21, 22, 23, 24, 25, 26, 27, 28, 29, 30, 31, 32, 33, 34, 35, 36, 37, 38, 39, 40, 41, 42, 43, 44, 45] (by decide +kernel) (by decide +kernel)
set_option maxRecDepth 20000 in
theorem gX6_point_X6_asked : GoodIn wsX6_point (wsV RX6 148 RX6 yX6_asked wsX6_asked) := goodIn_app (goodIn_of _ (by decide +kernel)) ggX6_point_X6_asked
theorem dX6_point_0 : decode cX6_point 0 = .ok (.aload_n 0, 1) := by decide +kernel
theorem dX6_point_1 : decode cX6_point 1 = .ok (.iload_n 3, 1) := by decide +kernel
theorem dX6_point_2 : decode cX6_point 2 = .ok (.ifCond .lt 11, 3) := by decide +kernel
theorem dX6_point_5 : decode cX6_point 5 = .ok (.iload_n 3, 1) := by decide +kernel
theorem dX6_point_6 : decode cX6_point 6 = .ok (.aload_n 0, 1) := by decide +kernel
theorem dX6_point_7 : decode cX6_point 7 = .ok (.getfield 71, 3) := by decide +kernel
theorem dX6_point_10 : decode cX6_point 10 = .ok (.if_icmp .le 7, 3) := by decide +kernel
theorem dX6_point_13 : decode cX6_point 13 = .ok (.iconst 1, 1) := by decide +kernel
theorem dX6_point_14 : decode cX6_point 14 = .ok (.goto 8, 3) := by decide +kernel
theorem dX6_point_17 : decode cX6_point 17 = .ok (.aload_n 0, 1) := by decide +kernel
theorem dX6_point_18 : decode cX6_point 18 = .ok (.iload_n 1, 1) := by decide +kernel
theorem dX6_point_19 : decode cX6_point 19 = .ok (.invokevirtual 148, 3) := by decide +kernel
theorem dX6_point_22 : decode cX6_point 22 = .ok (.putfield 74, 3) := by decide +kernel
theorem dX6_point_25 : decode cX6_point 25 = .ok (.aload_n 0, 1) := by decide +kernel
theorem dX6_point_26 : decode cX6_point 26 = .ok (.aload_n 0, 1) := by decide +kernel
theorem dX6_point_27 : decode cX6_point 27 = .ok (.getfield 74, 3) := by decide +kernel
theorem dX6_point_30 : decode cX6_point 30 = .ok (.ifCond .ne 21, 3) := by decide +kernel
theorem dX6_point_33 : decode cX6_point 33 = .ok (.iload_n 2, 1) := by decide +kernel
theorem dX6_point_34 : decode cX6_point 34 = .ok (.ifCond .lt 13, 3) := by decide +kernel
theorem dX6_point_37 : decode cX6_point 37 = .ok (.iload_n 2, 1) := by decide +kernel
theorem dX6_point_38 : decode cX6_point 38 = .ok (.aload_n 0, 1) := by decide +kernel
theorem dX6_point_39 : decode cX6_point 39 = .ok (.getfield 28, 3) := by decide +kernel
theorem dX6_point_42 : decode cX6_point 42 = .ok (.iload_n 1, 1) := by decide +kernel
theorem dX6_point_43 : decode cX6_point 43 = .ok (.iaload, 1) := by decide +kernel
theorem dX6_point_44 : decode cX6_point 44 = .ok (.if_icmp .lt 7, 3) := by decide +kernel
theorem dX6_point_47 : decode cX6_point 47 = .ok (.iconst 3, 1) := by decide +kernel
theorem dX6_point_48 : decode cX6_point 48 = .ok (.goto 7, 3) := by decide +kernel
theorem dX6_point_51 : decode cX6_point 51 = .ok (.aload_n 0, 1) := by decide +kernel
theorem dX6_point_52 : decode cX6_point 52 = .ok (.getfield 74, 3) := by decide +kernel
theorem dX6_point_55 : decode cX6_point 55 = .ok (.putfield 74, 3) := by decide +kernel
theorem dX6_point_58 : decode cX6_point 58 = .ok (.aload_n 0, 1) := by decide +kernel
theorem dX6_point_59 : decode cX6_point 59 = .ok (.getfield 74, 3) := by decide +kernel
theorem dX6_point_62 : decode cX6_point 62 = .ok (.ifCond .eq 7, 3) := by decide +kernel
theorem dX6_point_65 : decode cX6_point 65 = .ok (.iconst 0, 1) := by decide +kernel
theorem dX6_point_66 : decode cX6_point 66 = .ok (.goto 35, 3) := by decide +kernel
theorem dX6_point_69 : decode cX6_point 69 = .ok (.iload_n 3, 1) := by decide +kernel
theorem dX6_point_70 : decode cX6_point 70 = .ok (.ifCond .ne 16, 3) := by decide +kernel
theorem dX6_point_73 : decode cX6_point 73 = .ok (.aload_n 0, 1) := by decide +kernel
theorem dX6_point_74 : decode cX6_point 74 = .ok (.getfield 34, 3) := by decide +kernel
theorem dX6_point_77 : decode cX6_point 77 = .ok (.iconst 5, 1) := by decide +kernel
theorem dX6_point_78 : decode cX6_point 78 = .ok (.iload_n 1, 1) := by decide +kernel
theorem dX6_point_79 : decode cX6_point 79 = .ok (.imul, 1) := by decide +kernel
theorem dX6_point_80 : decode cX6_point 80 = .ok (.iload_n 2, 1) := by decide +kernel
theorem dX6_point_81 : decode cX6_point 81 = .ok (.iadd, 1) := by decide +kernel
theorem dX6_point_82 : decode cX6_point 82 = .ok (.iaload, 1) := by decide +kernel
theorem dX6_point_83 : decode cX6_point 83 = .ok (.goto 18, 3) := by decide +kernel
theorem dX6_point_86 : decode cX6_point 86 = .ok (.aload_n 0, 1) := by decide +kernel
theorem dX6_point_87 : decode cX6_point 87 = .ok (.getfield 31, 3) := by decide +kernel
theorem dX6_point_90 : decode cX6_point 90 = .ok (.bipush 25, 2) := by decide +kernel
theorem dX6_point_92 : decode cX6_point 92 = .ok (.iload_n 1, 1) := by decide +kernel
theorem dX6_point_93 : decode cX6_point 93 = .ok (.imul, 1) := by decide +kernel
theorem dX6_point_94 : decode cX6_point 94 = .ok (.iconst 5, 1) := by decide +kernel
theorem dX6_point_95 : decode cX6_point 95 = .ok (.iload_n 2, 1) := by decide +kernel
theorem dX6_point_96 : decode cX6_point 96 = .ok (.imul, 1) := by decide +kernel
theorem dX6_point_97 : decode cX6_point 97 = .ok (.iadd, 1) := by decide +kernel
theorem dX6_point_98 : decode cX6_point 98 = .ok (.iload_n 3, 1) := by decide +kernel
theorem dX6_point_99 : decode cX6_point 99 = .ok (.iadd, 1) := by decide +kernel
theorem dX6_point_100 : decode cX6_point 100 = .ok (.iaload, 1) := by decide +kernel
theorem dX6_point_101 : decode cX6_point 101 = .ok (.ireturn, 1) := by decide +kernel
set_option maxRecDepth 20000 in
theorem ggX6_equations_X6_asked : GoodIn wsX6_equations wsX6_asked := goodIn_r _ [7, 8, 9, 10, 11, 6, 12, 13, 14, 15, 16, 17, 18, 19, 20, 21, 22, 23, 24, 25, 26, 27, 28, 29, 30, 31, 32, 33, 34, 35, 36, 37, 38, 39, 40, 41, 42] (by decide +kernel) (by decide +kernel)
set_option maxRecDepth 20000 in
theorem gX6_equations_X6_asked : GoodIn wsX6_equations (wsV RX6 148 RX6 yX6_asked wsX6_asked) := goodIn_app (goodIn_of _ (by decide +kernel)) ggX6_equations_X6_asked
theorem dX6_equations_0 : decode cX6_equations 0 = .ok (.aload_n 0, 1) := by decide +kernel
theorem dX6_equations_1 : decode cX6_equations 1 = .ok (.aload_n 0, 1) := by decide +kernel
theorem dX6_equations_2 : decode cX6_equations 2 = .ok (.iload_n 1, 1) := by decide +kernel
theorem dX6_equations_3 : decode cX6_equations 3 = .ok (.invokevirtual 148, 3) := by decide +kernel
theorem dX6_equations_6 : decode cX6_equations 6 = .ok (.putfield 74, 3) := by decide +kernel
theorem dX6_equations_9 : decode cX6_equations 9 = .ok (.aload_n 0, 1) := by decide +kernel
theorem dX6_equations_10 : decode cX6_equations 10 = .ok (.getfield 74, 3) := by decide +kernel
theorem dX6_equations_13 : decode cX6_equations 13 = .ok (.ifCond .ne 12, 3) := by decide +kernel
theorem dX6_equations_16 : decode cX6_equations 16 = .ok (.aload_n 0, 1) := by decide +kernel
theorem dX6_equations_17 : decode cX6_equations 17 = .ok (.getfield 43, 3) := by decide +kernel
theorem dX6_equations_20 : decode cX6_equations 20 = .ok (.iload_n 1, 1) := by decide +kernel
theorem dX6_equations_21 : decode cX6_equations 21 = .ok (.iaload, 1) := by decide +kernel
theorem dX6_equations_22 : decode cX6_equations 22 = .ok (.goto 4, 3) := by decide +kernel
theorem dX6_equations_25 : decode cX6_equations 25 = .ok (.iconst 0, 1) := by decide +kernel
theorem dX6_equations_26 : decode cX6_equations 26 = .ok (.ireturn, 1) := by decide +kernel
set_option maxRecDepth 20000 in
theorem ggX6_coefficient_X6_asked : GoodIn wsX6_coefficient wsX6_asked := goodIn_r _ [9, 10, 11, 12, 13, 8, 14, 15, 16, 17, 18, 19, 20, 21, 22, 23, 24, 25, 26, 27, 28, 29, 30, 31, 32, 33, 34, 35, 36, 37, 38, 39, 40, 41, 42, 43, 44] (by decide +kernel) (by decide +kernel)
set_option maxRecDepth 20000 in
theorem gX6_coefficient_X6_asked : GoodIn wsX6_coefficient (wsV RX6 148 RX6 yX6_asked wsX6_asked) := goodIn_app (goodIn_of _ (by decide +kernel)) ggX6_coefficient_X6_asked
theorem dX6_coefficient_0 : decode cX6_coefficient 0 = .ok (.aload_n 0, 1) := by decide +kernel
theorem dX6_coefficient_1 : decode cX6_coefficient 1 = .ok (.iload_n 3, 1) := by decide +kernel
theorem dX6_coefficient_2 : decode cX6_coefficient 2 = .ok (.ifCond .lt 11, 3) := by decide +kernel
theorem dX6_coefficient_5 : decode cX6_coefficient 5 = .ok (.iload_n 3, 1) := by decide +kernel
theorem dX6_coefficient_6 : decode cX6_coefficient 6 = .ok (.aload_n 0, 1) := by decide +kernel
theorem dX6_coefficient_7 : decode cX6_coefficient 7 = .ok (.getfield 71, 3) := by decide +kernel
theorem dX6_coefficient_10 : decode cX6_coefficient 10 = .ok (.if_icmp .le 7, 3) := by decide +kernel
theorem dX6_coefficient_13 : decode cX6_coefficient 13 = .ok (.iconst 1, 1) := by decide +kernel
theorem dX6_coefficient_14 : decode cX6_coefficient 14 = .ok (.goto 8, 3) := by decide +kernel
theorem dX6_coefficient_17 : decode cX6_coefficient 17 = .ok (.aload_n 0, 1) := by decide +kernel
theorem dX6_coefficient_18 : decode cX6_coefficient 18 = .ok (.iload_n 1, 1) := by decide +kernel
theorem dX6_coefficient_19 : decode cX6_coefficient 19 = .ok (.invokevirtual 148, 3) := by decide +kernel
theorem dX6_coefficient_22 : decode cX6_coefficient 22 = .ok (.putfield 74, 3) := by decide +kernel
theorem dX6_coefficient_25 : decode cX6_coefficient 25 = .ok (.aload_n 0, 1) := by decide +kernel
theorem dX6_coefficient_26 : decode cX6_coefficient 26 = .ok (.aload_n 0, 1) := by decide +kernel
theorem dX6_coefficient_27 : decode cX6_coefficient 27 = .ok (.getfield 74, 3) := by decide +kernel
theorem dX6_coefficient_30 : decode cX6_coefficient 30 = .ok (.ifCond .ne 21, 3) := by decide +kernel
theorem dX6_coefficient_33 : decode cX6_coefficient 33 = .ok (.iload_n 2, 1) := by decide +kernel
theorem dX6_coefficient_34 : decode cX6_coefficient 34 = .ok (.ifCond .lt 13, 3) := by decide +kernel
theorem dX6_coefficient_37 : decode cX6_coefficient 37 = .ok (.iload_n 2, 1) := by decide +kernel
theorem dX6_coefficient_38 : decode cX6_coefficient 38 = .ok (.aload_n 0, 1) := by decide +kernel
theorem dX6_coefficient_39 : decode cX6_coefficient 39 = .ok (.getfield 43, 3) := by decide +kernel
theorem dX6_coefficient_42 : decode cX6_coefficient 42 = .ok (.iload_n 1, 1) := by decide +kernel
theorem dX6_coefficient_43 : decode cX6_coefficient 43 = .ok (.iaload, 1) := by decide +kernel
theorem dX6_coefficient_44 : decode cX6_coefficient 44 = .ok (.if_icmp .lt 7, 3) := by decide +kernel
theorem dX6_coefficient_47 : decode cX6_coefficient 47 = .ok (.iconst 3, 1) := by decide +kernel
theorem dX6_coefficient_48 : decode cX6_coefficient 48 = .ok (.goto 7, 3) := by decide +kernel
theorem dX6_coefficient_51 : decode cX6_coefficient 51 = .ok (.aload_n 0, 1) := by decide +kernel
theorem dX6_coefficient_52 : decode cX6_coefficient 52 = .ok (.getfield 74, 3) := by decide +kernel
theorem dX6_coefficient_55 : decode cX6_coefficient 55 = .ok (.putfield 74, 3) := by decide +kernel
theorem dX6_coefficient_58 : decode cX6_coefficient 58 = .ok (.aload_n 0, 1) := by decide +kernel
theorem dX6_coefficient_59 : decode cX6_coefficient 59 = .ok (.getfield 74, 3) := by decide +kernel
theorem dX6_coefficient_62 : decode cX6_coefficient 62 = .ok (.ifCond .eq 7, 3) := by decide +kernel
theorem dX6_coefficient_65 : decode cX6_coefficient 65 = .ok (.iconst 0, 1) := by decide +kernel
theorem dX6_coefficient_66 : decode cX6_coefficient 66 = .ok (.goto 18, 3) := by decide +kernel
theorem dX6_coefficient_69 : decode cX6_coefficient 69 = .ok (.aload_n 0, 1) := by decide +kernel
theorem dX6_coefficient_70 : decode cX6_coefficient 70 = .ok (.getfield 46, 3) := by decide +kernel
theorem dX6_coefficient_73 : decode cX6_coefficient 73 = .ok (.bipush 25, 2) := by decide +kernel
theorem dX6_coefficient_75 : decode cX6_coefficient 75 = .ok (.iload_n 1, 1) := by decide +kernel
theorem dX6_coefficient_76 : decode cX6_coefficient 76 = .ok (.imul, 1) := by decide +kernel
theorem dX6_coefficient_77 : decode cX6_coefficient 77 = .ok (.iconst 5, 1) := by decide +kernel
theorem dX6_coefficient_78 : decode cX6_coefficient 78 = .ok (.iload_n 2, 1) := by decide +kernel
theorem dX6_coefficient_79 : decode cX6_coefficient 79 = .ok (.imul, 1) := by decide +kernel
theorem dX6_coefficient_80 : decode cX6_coefficient 80 = .ok (.iadd, 1) := by decide +kernel
theorem dX6_coefficient_81 : decode cX6_coefficient 81 = .ok (.iload_n 3, 1) := by decide +kernel
theorem dX6_coefficient_82 : decode cX6_coefficient 82 = .ok (.iadd, 1) := by decide +kernel
theorem dX6_coefficient_83 : decode cX6_coefficient 83 = .ok (.iaload, 1) := by decide +kernel
theorem dX6_coefficient_84 : decode cX6_coefficient 84 = .ok (.ireturn, 1) := by decide +kernel
set_option maxRecDepth 20000 in
theorem ggX6_holds_X6_asked : GoodIn wsX6_holds wsX6_asked := goodIn_r _ [9, 10, 11, 12, 13, 8, 14, 15, 24, 25, 26, 27, 28, 29, 30, 31, 32, 33, 34, 35, 36, 37, 38, 39, 40, 41, 42, 43, 44, 45, 46, 47, 48, 49, 50, 51, 52] (by decide +kernel) (by decide +kernel)
set_option maxRecDepth 20000 in
theorem gX6_holds_X6_asked : GoodIn wsX6_holds (wsV RX6 148 RX6 yX6_asked wsX6_asked) := goodIn_app (goodIn_of _ (by decide +kernel)) ggX6_holds_X6_asked
set_option maxRecDepth 20000 in
theorem ggX6_holds_X6_mod : GoodIn wsX6_holds wsX6_mod := goodIn_r _ [18, 19] (by decide +kernel) (by decide +kernel)
set_option maxRecDepth 20000 in
theorem gX6_holds_X6_mod : GoodIn wsX6_holds (va_wsS RX6 80 yX6_mod wsX6_mod) := goodIn_app (goodIn_of _ (by decide +kernel)) ggX6_holds_X6_mod
set_option maxRecDepth 20000 in
theorem ggX6_holds_X6_clearDraft : GoodIn wsX6_holds wsX6_clearDraft := goodIn_r _ [23, 3, 24, 25, 26, 27, 28, 29, 30, 31, 32, 33, 34, 35, 36, 37, 38, 39, 40, 41, 42, 43, 44, 45, 46, 47, 48, 49, 50, 51, 52] (by decide +kernel) (by decide +kernel)
set_option maxRecDepth 20000 in
theorem gX6_holds_X6_clearDraft : GoodIn wsX6_holds (wsV RX6 106 RX6 yX6_clearDraft wsX6_clearDraft) := goodIn_app (goodIn_of _ (by decide +kernel)) ggX6_holds_X6_clearDraft
theorem dX6_holds_0 : decode cX6_holds 0 = .ok (.aload_n 0, 1) := by decide +kernel
theorem dX6_holds_1 : decode cX6_holds 1 = .ok (.aload_n 0, 1) := by decide +kernel
theorem dX6_holds_2 : decode cX6_holds 2 = .ok (.iload_n 1, 1) := by decide +kernel
theorem dX6_holds_3 : decode cX6_holds 3 = .ok (.invokevirtual 148, 3) := by decide +kernel
theorem dX6_holds_6 : decode cX6_holds 6 = .ok (.putfield 74, 3) := by decide +kernel
theorem dX6_holds_9 : decode cX6_holds 9 = .ok (.aload_n 0, 1) := by decide +kernel
theorem dX6_holds_10 : decode cX6_holds 10 = .ok (.getfield 74, 3) := by decide +kernel
theorem dX6_holds_13 : decode cX6_holds 13 = .ok (.ifCond .eq 5, 3) := by decide +kernel
theorem dX6_holds_16 : decode cX6_holds 16 = .ok (.iconst 0, 1) := by decide +kernel
theorem dX6_holds_17 : decode cX6_holds 17 = .ok (.ireturn, 1) := by decide +kernel
theorem dX6_holds_18 : decode cX6_holds 18 = .ok (.iconst 1, 1) := by decide +kernel
theorem dX6_holds_19 : decode cX6_holds 19 = .ok (.istore_n 2, 1) := by decide +kernel
theorem dX6_holds_20 : decode cX6_holds 20 = .ok (.iconst 0, 1) := by decide +kernel
theorem dX6_holds_21 : decode cX6_holds 21 = .ok (.istore_n 3, 1) := by decide +kernel
theorem dX6_holds_22 : decode cX6_holds 22 = .ok (.iload_n 3, 1) := by decide +kernel
theorem dX6_holds_23 : decode cX6_holds 23 = .ok (.aload_n 0, 1) := by decide +kernel
theorem dX6_holds_24 : decode cX6_holds 24 = .ok (.getfield 28, 3) := by decide +kernel
theorem dX6_holds_27 : decode cX6_holds 27 = .ok (.iload_n 1, 1) := by decide +kernel
theorem dX6_holds_28 : decode cX6_holds 28 = .ok (.iaload, 1) := by decide +kernel
theorem dX6_holds_29 : decode cX6_holds 29 = .ok (.if_icmp .ge 76, 3) := by decide +kernel
theorem dX6_holds_32 : decode cX6_holds 32 = .ok (.lconst 0, 1) := by decide +kernel
theorem dX6_holds_33 : decode cX6_holds 33 = .ok (.lstore 4, 2) := by decide +kernel
theorem dX6_holds_35 : decode cX6_holds 35 = .ok (.iconst 0, 1) := by decide +kernel
theorem dX6_holds_36 : decode cX6_holds 36 = .ok (.istore 6, 2) := by decide +kernel
theorem dX6_holds_38 : decode cX6_holds 38 = .ok (.iload 6, 2) := by decide +kernel
theorem dX6_holds_40 : decode cX6_holds 40 = .ok (.iconst 5, 1) := by decide +kernel
theorem dX6_holds_41 : decode cX6_holds 41 = .ok (.if_icmp .ge 40, 3) := by decide +kernel
theorem dX6_holds_44 : decode cX6_holds 44 = .ok (.lload 4, 2) := by decide +kernel
theorem dX6_holds_46 : decode cX6_holds 46 = .ok (.aload_n 0, 1) := by decide +kernel
theorem dX6_holds_47 : decode cX6_holds 47 = .ok (.getfield 7, 3) := by decide +kernel
theorem dX6_holds_50 : decode cX6_holds 50 = .ok (.iload 6, 2) := by decide +kernel
theorem dX6_holds_52 : decode cX6_holds 52 = .ok (.iaload, 1) := by decide +kernel
theorem dX6_holds_53 : decode cX6_holds 53 = .ok (.i2l, 1) := by decide +kernel
theorem dX6_holds_54 : decode cX6_holds 54 = .ok (.aload_n 0, 1) := by decide +kernel
theorem dX6_holds_55 : decode cX6_holds 55 = .ok (.getfield 31, 3) := by decide +kernel
theorem dX6_holds_58 : decode cX6_holds 58 = .ok (.bipush 25, 2) := by decide +kernel
theorem dX6_holds_60 : decode cX6_holds 60 = .ok (.iload_n 1, 1) := by decide +kernel
theorem dX6_holds_61 : decode cX6_holds 61 = .ok (.imul, 1) := by decide +kernel
theorem dX6_holds_62 : decode cX6_holds 62 = .ok (.iconst 5, 1) := by decide +kernel
theorem dX6_holds_63 : decode cX6_holds 63 = .ok (.iload_n 3, 1) := by decide +kernel
theorem dX6_holds_64 : decode cX6_holds 64 = .ok (.imul, 1) := by decide +kernel
theorem dX6_holds_65 : decode cX6_holds 65 = .ok (.iadd, 1) := by decide +kernel
theorem dX6_holds_66 : decode cX6_holds 66 = .ok (.iload 6, 2) := by decide +kernel
theorem dX6_holds_68 : decode cX6_holds 68 = .ok (.iadd, 1) := by decide +kernel
theorem dX6_holds_69 : decode cX6_holds 69 = .ok (.iaload, 1) := by decide +kernel
theorem dX6_holds_70 : decode cX6_holds 70 = .ok (.i2l, 1) := by decide +kernel
theorem dX6_holds_71 : decode cX6_holds 71 = .ok (.lmul, 1) := by decide +kernel
theorem dX6_holds_72 : decode cX6_holds 72 = .ok (.ladd, 1) := by decide +kernel
theorem dX6_holds_73 : decode cX6_holds 73 = .ok (.lstore 4, 2) := by decide +kernel
theorem dX6_holds_75 : decode cX6_holds 75 = .ok (.iinc 6 1, 3) := by decide +kernel
theorem dX6_holds_78 : decode cX6_holds 78 = .ok (.goto (-40), 3) := by decide +kernel
theorem dX6_holds_81 : decode cX6_holds 81 = .ok (.iload_n 2, 1) := by decide +kernel
theorem dX6_holds_82 : decode cX6_holds 82 = .ok (.ifCond .eq 15, 3) := by decide +kernel
theorem dX6_holds_85 : decode cX6_holds 85 = .ok (.lload 4, 2) := by decide +kernel
theorem dX6_holds_87 : decode cX6_holds 87 = .ok (.invokestatic 80, 3) := by decide +kernel
theorem dX6_holds_90 : decode cX6_holds 90 = .ok (.ifCond .ne 7, 3) := by decide +kernel
theorem dX6_holds_93 : decode cX6_holds 93 = .ok (.iconst 1, 1) := by decide +kernel
theorem dX6_holds_94 : decode cX6_holds 94 = .ok (.goto 4, 3) := by decide +kernel
theorem dX6_holds_97 : decode cX6_holds 97 = .ok (.iconst 0, 1) := by decide +kernel
theorem dX6_holds_98 : decode cX6_holds 98 = .ok (.istore_n 2, 1) := by decide +kernel
theorem dX6_holds_99 : decode cX6_holds 99 = .ok (.iinc 3 1, 3) := by decide +kernel
theorem dX6_holds_102 : decode cX6_holds 102 = .ok (.goto (-80), 3) := by decide +kernel
theorem dX6_holds_105 : decode cX6_holds 105 = .ok (.aload_n 0, 1) := by decide +kernel
theorem dX6_holds_106 : decode cX6_holds 106 = .ok (.invokevirtual 106, 3) := by decide +kernel
theorem dX6_holds_109 : decode cX6_holds 109 = .ok (.iload_n 2, 1) := by decide +kernel
theorem dX6_holds_110 : decode cX6_holds 110 = .ok (.ireturn, 1) := by decide +kernel
set_option maxRecDepth 20000 in
theorem ggX6_begin_X6_mod : GoodIn wsX6_begin wsX6_mod := goodIn_r _ [9, 10] (by decide +kernel) (by decide +kernel)
set_option maxRecDepth 20000 in
theorem gX6_begin_X6_mod : GoodIn wsX6_begin (va_wsS RX6 80 yX6_mod wsX6_mod) := goodIn_app (goodIn_of _ (by decide +kernel)) ggX6_begin_X6_mod
theorem dX6_begin_0 : decode cX6_begin 0 = .ok (.aload_n 0, 1) := by decide +kernel
theorem dX6_begin_1 : decode cX6_begin 1 = .ok (.iload_n 1, 1) := by decide +kernel
theorem dX6_begin_2 : decode cX6_begin 2 = .ok (.iconst 1, 1) := by decide +kernel
theorem dX6_begin_3 : decode cX6_begin 3 = .ok (.if_icmp .lt 11, 3) := by decide +kernel
theorem dX6_begin_6 : decode cX6_begin 6 = .ok (.iload_n 1, 1) := by decide +kernel
theorem dX6_begin_7 : decode cX6_begin 7 = .ok (.aload_n 0, 1) := by decide +kernel
theorem dX6_begin_8 : decode cX6_begin 8 = .ok (.getfield 71, 3) := by decide +kernel
theorem dX6_begin_11 : decode cX6_begin 11 = .ok (.if_icmp .le 7, 3) := by decide +kernel
theorem dX6_begin_14 : decode cX6_begin 14 = .ok (.iconst 1, 1) := by decide +kernel
theorem dX6_begin_15 : decode cX6_begin 15 = .ok (.goto 4, 3) := by decide +kernel
theorem dX6_begin_18 : decode cX6_begin 18 = .ok (.iconst 0, 1) := by decide +kernel
theorem dX6_begin_19 : decode cX6_begin 19 = .ok (.putfield 74, 3) := by decide +kernel
theorem dX6_begin_22 : decode cX6_begin 22 = .ok (.aload_n 0, 1) := by decide +kernel
theorem dX6_begin_23 : decode cX6_begin 23 = .ok (.getfield 74, 3) := by decide +kernel
theorem dX6_begin_26 : decode cX6_begin 26 = .ok (.ifCond .eq 4, 3) := by decide +kernel
theorem dX6_begin_29 : decode cX6_begin 29 = .ok (.return_, 1) := by decide +kernel
theorem dX6_begin_30 : decode cX6_begin 30 = .ok (.aload_n 0, 1) := by decide +kernel
theorem dX6_begin_31 : decode cX6_begin 31 = .ok (.getfield 49, 3) := by decide +kernel
theorem dX6_begin_34 : decode cX6_begin 34 = .ok (.iload_n 1, 1) := by decide +kernel
theorem dX6_begin_35 : decode cX6_begin 35 = .ok (.iload_n 2, 1) := by decide +kernel
theorem dX6_begin_36 : decode cX6_begin 36 = .ok (.i2l, 1) := by decide +kernel
theorem dX6_begin_37 : decode cX6_begin 37 = .ok (.invokestatic 80, 3) := by decide +kernel
theorem dX6_begin_40 : decode cX6_begin 40 = .ok (.iastore, 1) := by decide +kernel
theorem dX6_begin_41 : decode cX6_begin 41 = .ok (.aload_n 0, 1) := by decide +kernel
theorem dX6_begin_42 : decode cX6_begin 42 = .ok (.aload_n 0, 1) := by decide +kernel
theorem dX6_begin_43 : decode cX6_begin 43 = .ok (.getfield 113, 3) := by decide +kernel
theorem dX6_begin_46 : decode cX6_begin 46 = .ok (.putfield 116, 3) := by decide +kernel
theorem dX6_begin_49 : decode cX6_begin 49 = .ok (.return_, 1) := by decide +kernel
set_option maxRecDepth 20000 in
theorem ggX6_go_X6_formValue : GoodIn wsX6_go wsX6_formValue := goodIn_r _ [13, 14, 5, 15, 16, 12, 17, 18, 24, 25, 26, 27, 28, 29, 30, 31, 32, 33, 34, 35, 36, 37, 38, 39, 40, 41, 42, 43, 44, 45, 46, 47, 48, 49, 50, 51, 52] (by decide +kernel) (by decide +kernel)
set_option maxRecDepth 20000 in
theorem gX6_go_X6_formValue : GoodIn wsX6_go (wsV RX6 119 RX6 yX6_formValue wsX6_formValue) := goodIn_app (goodIn_of _ (by decide +kernel)) ggX6_go_X6_formValue
set_option maxRecDepth 20000 in
theorem ggX6_go_X6_mod : GoodIn wsX6_go wsX6_mod := goodIn_r _ [17, 18] (by decide +kernel) (by decide +kernel)
set_option maxRecDepth 20000 in
theorem gX6_go_X6_mod : GoodIn wsX6_go (va_wsS RX6 80 yX6_mod wsX6_mod) := goodIn_app (goodIn_of _ (by decide +kernel)) ggX6_go_X6_mod
set_option maxRecDepth 20000 in
theorem ggX6_go_X6_change : GoodIn wsX6_go wsX6_change := goodIn_r _ [22, 7, 5, 23, 9, 10, 11, 12, 13, 14, 15, 16, 17, 18, 24, 25, 26, 27, 28, 29, 30, 31, 32, 33, 34, 35, 36, 37, 38, 39, 40, 41, 42, 43, 44, 45, 46, 47, 48, 49, 50, 51, 52] (by decide +kernel) (by decide +kernel)
set_option maxRecDepth 20000 in
theorem gX6_go_X6_change : GoodIn wsX6_go (wsV RX6 136 RX6 yX6_change wsX6_change) := goodIn_app (goodIn_of _ (by decide +kernel)) ggX6_go_X6_change
theorem dX6_go_0 : decode cX6_go 0 = .ok (.aload_n 0, 1) := by decide +kernel
theorem dX6_go_1 : decode cX6_go 1 = .ok (.iload_n 1, 1) := by decide +kernel
theorem dX6_go_2 : decode cX6_go 2 = .ok (.ifCond .lt 24, 3) := by decide +kernel
theorem dX6_go_5 : decode cX6_go 5 = .ok (.iload_n 1, 1) := by decide +kernel
theorem dX6_go_6 : decode cX6_go 6 = .ok (.aload_n 0, 1) := by decide +kernel
theorem dX6_go_7 : decode cX6_go 7 = .ok (.getfield 103, 3) := by decide +kernel
theorem dX6_go_10 : decode cX6_go 10 = .ok (.if_icmp .ge 16, 3) := by decide +kernel
theorem dX6_go_13 : decode cX6_go 13 = .ok (.aload_n 0, 1) := by decide +kernel
theorem dX6_go_14 : decode cX6_go 14 = .ok (.getfield 13, 3) := by decide +kernel
theorem dX6_go_17 : decode cX6_go 17 = .ok (.iload_n 1, 1) := by decide +kernel
theorem dX6_go_18 : decode cX6_go 18 = .ok (.iaload, 1) := by decide +kernel
theorem dX6_go_19 : decode cX6_go 19 = .ok (.aload_n 0, 1) := by decide +kernel
theorem dX6_go_20 : decode cX6_go 20 = .ok (.getfield 116, 3) := by decide +kernel
theorem dX6_go_23 : decode cX6_go 23 = .ok (.if_icmp .eq 7, 3) := by decide +kernel
theorem dX6_go_26 : decode cX6_go 26 = .ok (.iconst 1, 1) := by decide +kernel
theorem dX6_go_27 : decode cX6_go 27 = .ok (.goto 4, 3) := by decide +kernel
theorem dX6_go_30 : decode cX6_go 30 = .ok (.iconst 0, 1) := by decide +kernel
theorem dX6_go_31 : decode cX6_go 31 = .ok (.putfield 74, 3) := by decide +kernel
theorem dX6_go_34 : decode cX6_go 34 = .ok (.aload_n 0, 1) := by decide +kernel
theorem dX6_go_35 : decode cX6_go 35 = .ok (.getfield 74, 3) := by decide +kernel
theorem dX6_go_38 : decode cX6_go 38 = .ok (.ifCond .eq 5, 3) := by decide +kernel
theorem dX6_go_41 : decode cX6_go 41 = .ok (.iconst 0, 1) := by decide +kernel
theorem dX6_go_42 : decode cX6_go 42 = .ok (.ireturn, 1) := by decide +kernel
theorem dX6_go_43 : decode cX6_go 43 = .ok (.iconst 0, 1) := by decide +kernel
theorem dX6_go_44 : decode cX6_go 44 = .ok (.istore_n 3, 1) := by decide +kernel
theorem dX6_go_45 : decode cX6_go 45 = .ok (.iload_n 3, 1) := by decide +kernel
theorem dX6_go_46 : decode cX6_go 46 = .ok (.iconst 5, 1) := by decide +kernel
theorem dX6_go_47 : decode cX6_go 47 = .ok (.if_icmp .ge 21, 3) := by decide +kernel
theorem dX6_go_50 : decode cX6_go 50 = .ok (.aload_n 0, 1) := by decide +kernel
theorem dX6_go_51 : decode cX6_go 51 = .ok (.getfield 64, 3) := by decide +kernel
theorem dX6_go_54 : decode cX6_go 54 = .ok (.iload_n 3, 1) := by decide +kernel
theorem dX6_go_55 : decode cX6_go 55 = .ok (.aload_n 0, 1) := by decide +kernel
theorem dX6_go_56 : decode cX6_go 56 = .ok (.getfield 49, 3) := by decide +kernel
theorem dX6_go_59 : decode cX6_go 59 = .ok (.iload_n 3, 1) := by decide +kernel
theorem dX6_go_60 : decode cX6_go 60 = .ok (.iaload, 1) := by decide +kernel
theorem dX6_go_61 : decode cX6_go 61 = .ok (.iastore, 1) := by decide +kernel
theorem dX6_go_62 : decode cX6_go 62 = .ok (.iinc 3 1, 3) := by decide +kernel
theorem dX6_go_65 : decode cX6_go 65 = .ok (.goto (-20), 3) := by decide +kernel
theorem dX6_go_68 : decode cX6_go 68 = .ok (.aload_n 0, 1) := by decide +kernel
theorem dX6_go_69 : decode cX6_go 69 = .ok (.getfield 19, 3) := by decide +kernel
theorem dX6_go_72 : decode cX6_go 72 = .ok (.iload_n 1, 1) := by decide +kernel
theorem dX6_go_73 : decode cX6_go 73 = .ok (.iaload, 1) := by decide +kernel
theorem dX6_go_74 : decode cX6_go 74 = .ok (.iconst 3, 1) := by decide +kernel
theorem dX6_go_75 : decode cX6_go 75 = .ok (.if_icmp .ne 11, 3) := by decide +kernel
theorem dX6_go_78 : decode cX6_go 78 = .ok (.aload_n 0, 1) := by decide +kernel
theorem dX6_go_79 : decode cX6_go 79 = .ok (.iload_n 1, 1) := by decide +kernel
theorem dX6_go_80 : decode cX6_go 80 = .ok (.invokevirtual 119, 3) := by decide +kernel
theorem dX6_go_83 : decode cX6_go 83 = .ok (.ifCond .ne 21, 3) := by decide +kernel
theorem dX6_go_86 : decode cX6_go 86 = .ok (.aload_n 0, 1) := by decide +kernel
theorem dX6_go_87 : decode cX6_go 87 = .ok (.getfield 19, 3) := by decide +kernel
theorem dX6_go_90 : decode cX6_go 90 = .ok (.iload_n 1, 1) := by decide +kernel
theorem dX6_go_91 : decode cX6_go 91 = .ok (.iaload, 1) := by decide +kernel
theorem dX6_go_92 : decode cX6_go 92 = .ok (.iconst 4, 1) := by decide +kernel
theorem dX6_go_93 : decode cX6_go 93 = .ok (.if_icmp .ne 13, 3) := by decide +kernel
theorem dX6_go_96 : decode cX6_go 96 = .ok (.aload_n 0, 1) := by decide +kernel
theorem dX6_go_97 : decode cX6_go 97 = .ok (.iload_n 1, 1) := by decide +kernel
theorem dX6_go_98 : decode cX6_go 98 = .ok (.invokevirtual 119, 3) := by decide +kernel
theorem dX6_go_101 : decode cX6_go 101 = .ok (.ifCond .ne 5, 3) := by decide +kernel
theorem dX6_go_104 : decode cX6_go 104 = .ok (.iconst 0, 1) := by decide +kernel
theorem dX6_go_105 : decode cX6_go 105 = .ok (.ireturn, 1) := by decide +kernel
theorem dX6_go_106 : decode cX6_go 106 = .ok (.aload_n 0, 1) := by decide +kernel
theorem dX6_go_107 : decode cX6_go 107 = .ok (.iload_n 1, 1) := by decide +kernel
theorem dX6_go_108 : decode cX6_go 108 = .ok (.iload_n 2, 1) := by decide +kernel
theorem dX6_go_109 : decode cX6_go 109 = .ok (.i2l, 1) := by decide +kernel
theorem dX6_go_110 : decode cX6_go 110 = .ok (.invokestatic 80, 3) := by decide +kernel
theorem dX6_go_113 : decode cX6_go 113 = .ok (.invokevirtual 136, 3) := by decide +kernel
theorem dX6_go_116 : decode cX6_go 116 = .ok (.iconst 0, 1) := by decide +kernel
theorem dX6_go_117 : decode cX6_go 117 = .ok (.istore_n 3, 1) := by decide +kernel
theorem dX6_go_118 : decode cX6_go 118 = .ok (.iload_n 3, 1) := by decide +kernel
theorem dX6_go_119 : decode cX6_go 119 = .ok (.iconst 5, 1) := by decide +kernel
theorem dX6_go_120 : decode cX6_go 120 = .ok (.if_icmp .ge 21, 3) := by decide +kernel
theorem dX6_go_123 : decode cX6_go 123 = .ok (.aload_n 0, 1) := by decide +kernel
theorem dX6_go_124 : decode cX6_go 124 = .ok (.getfield 49, 3) := by decide +kernel
theorem dX6_go_127 : decode cX6_go 127 = .ok (.iload_n 3, 1) := by decide +kernel
theorem dX6_go_128 : decode cX6_go 128 = .ok (.aload_n 0, 1) := by decide +kernel
theorem dX6_go_129 : decode cX6_go 129 = .ok (.getfield 64, 3) := by decide +kernel
theorem dX6_go_132 : decode cX6_go 132 = .ok (.iload_n 3, 1) := by decide +kernel
theorem dX6_go_133 : decode cX6_go 133 = .ok (.iaload, 1) := by decide +kernel
theorem dX6_go_134 : decode cX6_go 134 = .ok (.iastore, 1) := by decide +kernel
theorem dX6_go_135 : decode cX6_go 135 = .ok (.iinc 3 1, 3) := by decide +kernel
theorem dX6_go_138 : decode cX6_go 138 = .ok (.goto (-20), 3) := by decide +kernel
theorem dX6_go_141 : decode cX6_go 141 = .ok (.aload_n 0, 1) := by decide +kernel
theorem dX6_go_142 : decode cX6_go 142 = .ok (.aload_n 0, 1) := by decide +kernel
theorem dX6_go_143 : decode cX6_go 143 = .ok (.getfield 16, 3) := by decide +kernel
theorem dX6_go_146 : decode cX6_go 146 = .ok (.iload_n 1, 1) := by decide +kernel
theorem dX6_go_147 : decode cX6_go 147 = .ok (.iaload, 1) := by decide +kernel
theorem dX6_go_148 : decode cX6_go 148 = .ok (.putfield 116, 3) := by decide +kernel
theorem dX6_go_151 : decode cX6_go 151 = .ok (.iconst 1, 1) := by decide +kernel
theorem dX6_go_152 : decode cX6_go 152 = .ok (.ireturn, 1) := by decide +kernel
theorem dX6_at_0 : decode cX6_at 0 = .ok (.aload_n 0, 1) := by decide +kernel
theorem dX6_at_1 : decode cX6_at 1 = .ok (.iload_n 1, 1) := by decide +kernel
theorem dX6_at_2 : decode cX6_at 2 = .ok (.ifCond .lt 11, 3) := by decide +kernel
theorem dX6_at_5 : decode cX6_at 5 = .ok (.iload_n 1, 1) := by decide +kernel
theorem dX6_at_6 : decode cX6_at 6 = .ok (.aload_n 0, 1) := by decide +kernel
theorem dX6_at_7 : decode cX6_at 7 = .ok (.getfield 71, 3) := by decide +kernel
theorem dX6_at_10 : decode cX6_at 10 = .ok (.if_icmp .le 7, 3) := by decide +kernel
theorem dX6_at_13 : decode cX6_at 13 = .ok (.iconst 1, 1) := by decide +kernel
theorem dX6_at_14 : decode cX6_at 14 = .ok (.goto 4, 3) := by decide +kernel
theorem dX6_at_17 : decode cX6_at 17 = .ok (.iconst 0, 1) := by decide +kernel
theorem dX6_at_18 : decode cX6_at 18 = .ok (.putfield 74, 3) := by decide +kernel
theorem dX6_at_21 : decode cX6_at 21 = .ok (.aload_n 0, 1) := by decide +kernel
theorem dX6_at_22 : decode cX6_at 22 = .ok (.getfield 74, 3) := by decide +kernel
theorem dX6_at_25 : decode cX6_at 25 = .ok (.ifCond .eq 7, 3) := by decide +kernel
theorem dX6_at_28 : decode cX6_at 28 = .ok (.iconst 0, 1) := by decide +kernel
theorem dX6_at_29 : decode cX6_at 29 = .ok (.goto 20, 3) := by decide +kernel
theorem dX6_at_32 : decode cX6_at 32 = .ok (.iload_n 1, 1) := by decide +kernel
theorem dX6_at_33 : decode cX6_at 33 = .ok (.ifCond .ne 10, 3) := by decide +kernel
theorem dX6_at_36 : decode cX6_at 36 = .ok (.aload_n 0, 1) := by decide +kernel
theorem dX6_at_37 : decode cX6_at 37 = .ok (.getfield 116, 3) := by decide +kernel
theorem dX6_at_40 : decode cX6_at 40 = .ok (.goto 9, 3) := by decide +kernel
theorem dX6_at_43 : decode cX6_at 43 = .ok (.aload_n 0, 1) := by decide +kernel
theorem dX6_at_44 : decode cX6_at 44 = .ok (.getfield 49, 3) := by decide +kernel
theorem dX6_at_47 : decode cX6_at 47 = .ok (.iload_n 1, 1) := by decide +kernel
theorem dX6_at_48 : decode cX6_at 48 = .ok (.iaload, 1) := by decide +kernel
theorem dX6_at_49 : decode cX6_at 49 = .ok (.ireturn, 1) := by decide +kernel
set_option maxRecDepth 20000 in
theorem ggX6_note_X6_isNode : GoodIn wsX6_note wsX6_isNode := goodIn_r _ [10, 11, 16, 17, 18, 19, 20, 21, 22, 23, 24, 25, 26, 27, 28, 29, 30, 31, 32, 33, 34, 35, 36, 37, 38, 39, 40, 41, 42, 43, 44] (by decide +kernel) (by decide +kernel)
set_option maxRecDepth 20000 in
theorem gX6_note_X6_isNode : GoodIn wsX6_note (wsV RX6 99 RX6 yX6_isNode wsX6_isNode) := goodIn_app (goodIn_of _ (by decide +kernel)) ggX6_note_X6_isNode
set_option maxRecDepth 20000 in
theorem ggX6_note_X6_clearDraft : GoodIn wsX6_note wsX6_clearDraft := goodIn_r _ [15, 5, 16, 17, 18, 19, 20, 21, 22, 23, 24, 25, 26, 27, 28, 29, 30, 31, 32, 33, 34, 35, 36, 37, 38, 39, 40, 41, 42, 43, 44] (by decide +kernel) (by decide +kernel)
set_option maxRecDepth 20000 in
theorem gX6_note_X6_clearDraft : GoodIn wsX6_note (wsV RX6 106 RX6 yX6_clearDraft wsX6_clearDraft) := goodIn_app (goodIn_of _ (by decide +kernel)) ggX6_note_X6_clearDraft
theorem dX6_note_0 : decode cX6_note 0 = .ok (.aload_n 0, 1) := by decide +kernel
theorem dX6_note_1 : decode cX6_note 1 = .ok (.aload_n 0, 1) := by decide +kernel
theorem dX6_note_2 : decode cX6_note 2 = .ok (.iload_n 1, 1) := by decide +kernel
theorem dX6_note_3 : decode cX6_note 3 = .ok (.invokevirtual 99, 3) := by decide +kernel
theorem dX6_note_6 : decode cX6_note 6 = .ok (.ifCond .ne 7, 3) := by decide +kernel
theorem dX6_note_9 : decode cX6_note 9 = .ok (.iconst 1, 1) := by decide +kernel
theorem dX6_note_10 : decode cX6_note 10 = .ok (.goto 17, 3) := by decide +kernel
theorem dX6_note_13 : decode cX6_note 13 = .ok (.aload_n 0, 1) := by decide +kernel
theorem dX6_note_14 : decode cX6_note 14 = .ok (.getfield 151, 3) := by decide +kernel
theorem dX6_note_17 : decode cX6_note 17 = .ok (.bipush 24, 2) := by decide +kernel
theorem dX6_note_19 : decode cX6_note 19 = .ok (.if_icmp .ne 7, 3) := by decide +kernel
theorem dX6_note_22 : decode cX6_note 22 = .ok (.iconst 2, 1) := by decide +kernel
theorem dX6_note_23 : decode cX6_note 23 = .ok (.goto 4, 3) := by decide +kernel
theorem dX6_note_26 : decode cX6_note 26 = .ok (.iconst 0, 1) := by decide +kernel
theorem dX6_note_27 : decode cX6_note 27 = .ok (.putfield 74, 3) := by decide +kernel
theorem dX6_note_30 : decode cX6_note 30 = .ok (.aload_n 0, 1) := by decide +kernel
theorem dX6_note_31 : decode cX6_note 31 = .ok (.getfield 74, 3) := by decide +kernel
theorem dX6_note_34 : decode cX6_note 34 = .ok (.ifCond .eq 5, 3) := by decide +kernel
theorem dX6_note_37 : decode cX6_note 37 = .ok (.iconst 0, 1) := by decide +kernel
theorem dX6_note_38 : decode cX6_note 38 = .ok (.ireturn, 1) := by decide +kernel
theorem dX6_note_39 : decode cX6_note 39 = .ok (.aload_n 0, 1) := by decide +kernel
theorem dX6_note_40 : decode cX6_note 40 = .ok (.getfield 52, 3) := by decide +kernel
theorem dX6_note_43 : decode cX6_note 43 = .ok (.aload_n 0, 1) := by decide +kernel
theorem dX6_note_44 : decode cX6_note 44 = .ok (.getfield 151, 3) := by decide +kernel
theorem dX6_note_47 : decode cX6_note 47 = .ok (.iload_n 1, 1) := by decide +kernel
theorem dX6_note_48 : decode cX6_note 48 = .ok (.iastore, 1) := by decide +kernel
theorem dX6_note_49 : decode cX6_note 49 = .ok (.iconst 0, 1) := by decide +kernel
theorem dX6_note_50 : decode cX6_note 50 = .ok (.istore_n 2, 1) := by decide +kernel
theorem dX6_note_51 : decode cX6_note 51 = .ok (.iload_n 2, 1) := by decide +kernel
theorem dX6_note_52 : decode cX6_note 52 = .ok (.iconst 5, 1) := by decide +kernel
theorem dX6_note_53 : decode cX6_note 53 = .ok (.if_icmp .ge 28, 3) := by decide +kernel
theorem dX6_note_56 : decode cX6_note 56 = .ok (.aload_n 0, 1) := by decide +kernel
theorem dX6_note_57 : decode cX6_note 57 = .ok (.getfield 55, 3) := by decide +kernel
theorem dX6_note_60 : decode cX6_note 60 = .ok (.iconst 5, 1) := by decide +kernel
theorem dX6_note_61 : decode cX6_note 61 = .ok (.aload_n 0, 1) := by decide +kernel
theorem dX6_note_62 : decode cX6_note 62 = .ok (.getfield 151, 3) := by decide +kernel
theorem dX6_note_65 : decode cX6_note 65 = .ok (.imul, 1) := by decide +kernel
theorem dX6_note_66 : decode cX6_note 66 = .ok (.iload_n 2, 1) := by decide +kernel
theorem dX6_note_67 : decode cX6_note 67 = .ok (.iadd, 1) := by decide +kernel
theorem dX6_note_68 : decode cX6_note 68 = .ok (.aload_n 0, 1) := by decide +kernel
theorem dX6_note_69 : decode cX6_note 69 = .ok (.getfield 7, 3) := by decide +kernel
theorem dX6_note_72 : decode cX6_note 72 = .ok (.iload_n 2, 1) := by decide +kernel
theorem dX6_note_73 : decode cX6_note 73 = .ok (.iaload, 1) := by decide +kernel
theorem dX6_note_74 : decode cX6_note 74 = .ok (.iastore, 1) := by decide +kernel
theorem dX6_note_75 : decode cX6_note 75 = .ok (.iinc 2 1, 3) := by decide +kernel
theorem dX6_note_78 : decode cX6_note 78 = .ok (.goto (-27), 3) := by decide +kernel
theorem dX6_note_81 : decode cX6_note 81 = .ok (.aload_n 0, 1) := by decide +kernel
theorem dX6_note_82 : decode cX6_note 82 = .ok (.invokevirtual 106, 3) := by decide +kernel
theorem dX6_note_85 : decode cX6_note 85 = .ok (.aload_n 0, 1) := by decide +kernel
theorem dX6_note_86 : decode cX6_note 86 = .ok (.dup, 1) := by decide +kernel
theorem dX6_note_87 : decode cX6_note 87 = .ok (.getfield 151, 3) := by decide +kernel
theorem dX6_note_90 : decode cX6_note 90 = .ok (.iconst 1, 1) := by decide +kernel
theorem dX6_note_91 : decode cX6_note 91 = .ok (.iadd, 1) := by decide +kernel
theorem dX6_note_92 : decode cX6_note 92 = .ok (.putfield 151, 3) := by decide +kernel
theorem dX6_note_95 : decode cX6_note 95 = .ok (.aload_n 0, 1) := by decide +kernel
theorem dX6_note_96 : decode cX6_note 96 = .ok (.getfield 151, 3) := by decide +kernel
theorem dX6_note_99 : decode cX6_note 99 = .ok (.ireturn, 1) := by decide +kernel
theorem dX6_noteAll_0 : decode cX6_noteAll 0 = .ok (.iconst 0, 1) := by decide +kernel
theorem dX6_noteAll_1 : decode cX6_noteAll 1 = .ok (.istore_n 1, 1) := by decide +kernel
theorem dX6_noteAll_2 : decode cX6_noteAll 2 = .ok (.iconst 0, 1) := by decide +kernel
theorem dX6_noteAll_3 : decode cX6_noteAll 3 = .ok (.istore_n 2, 1) := by decide +kernel
theorem dX6_noteAll_4 : decode cX6_noteAll 4 = .ok (.iload_n 2, 1) := by decide +kernel
theorem dX6_noteAll_5 : decode cX6_noteAll 5 = .ok (.aload_n 0, 1) := by decide +kernel
theorem dX6_noteAll_6 : decode cX6_noteAll 6 = .ok (.getfield 67, 3) := by decide +kernel
theorem dX6_noteAll_9 : decode cX6_noteAll 9 = .ok (.if_icmp .ge 25, 3) := by decide +kernel
theorem dX6_noteAll_12 : decode cX6_noteAll 12 = .ok (.aload_n 0, 1) := by decide +kernel
theorem dX6_noteAll_13 : decode cX6_noteAll 13 = .ok (.getfield 109, 3) := by decide +kernel
theorem dX6_noteAll_16 : decode cX6_noteAll 16 = .ok (.ifCond .eq 18, 3) := by decide +kernel
theorem dX6_noteAll_19 : decode cX6_noteAll 19 = .ok (.iload_n 1, 1) := by decide +kernel
theorem dX6_noteAll_20 : decode cX6_noteAll 20 = .ok (.aload_n 0, 1) := by decide +kernel
theorem dX6_noteAll_21 : decode cX6_noteAll 21 = .ok (.getfield 43, 3) := by decide +kernel
theorem dX6_noteAll_24 : decode cX6_noteAll 24 = .ok (.iload_n 2, 1) := by decide +kernel
theorem dX6_noteAll_25 : decode cX6_noteAll 25 = .ok (.iaload, 1) := by decide +kernel
theorem dX6_noteAll_26 : decode cX6_noteAll 26 = .ok (.iadd, 1) := by decide +kernel
theorem dX6_noteAll_27 : decode cX6_noteAll 27 = .ok (.istore_n 1, 1) := by decide +kernel
theorem dX6_noteAll_28 : decode cX6_noteAll 28 = .ok (.iinc 2 1, 3) := by decide +kernel
theorem dX6_noteAll_31 : decode cX6_noteAll 31 = .ok (.goto (-27), 3) := by decide +kernel
theorem dX6_noteAll_34 : decode cX6_noteAll 34 = .ok (.aload_n 0, 1) := by decide +kernel
theorem dX6_noteAll_35 : decode cX6_noteAll 35 = .ok (.aload_n 0, 1) := by decide +kernel
theorem dX6_noteAll_36 : decode cX6_noteAll 36 = .ok (.getfield 109, 3) := by decide +kernel
theorem dX6_noteAll_39 : decode cX6_noteAll 39 = .ok (.ifCond .ne 7, 3) := by decide +kernel
theorem dX6_noteAll_42 : decode cX6_noteAll 42 = .ok (.iconst 1, 1) := by decide +kernel
theorem dX6_noteAll_43 : decode cX6_noteAll 43 = .ok (.goto 14, 3) := by decide +kernel
theorem dX6_noteAll_46 : decode cX6_noteAll 46 = .ok (.iload_n 1, 1) := by decide +kernel
theorem dX6_noteAll_47 : decode cX6_noteAll 47 = .ok (.bipush 24, 2) := by decide +kernel
theorem dX6_noteAll_49 : decode cX6_noteAll 49 = .ok (.if_icmp .le 7, 3) := by decide +kernel
theorem dX6_noteAll_52 : decode cX6_noteAll 52 = .ok (.iconst 2, 1) := by decide +kernel
theorem dX6_noteAll_53 : decode cX6_noteAll 53 = .ok (.goto 4, 3) := by decide +kernel
theorem dX6_noteAll_56 : decode cX6_noteAll 56 = .ok (.iconst 0, 1) := by decide +kernel
theorem dX6_noteAll_57 : decode cX6_noteAll 57 = .ok (.putfield 74, 3) := by decide +kernel
theorem dX6_noteAll_60 : decode cX6_noteAll 60 = .ok (.aload_n 0, 1) := by decide +kernel
theorem dX6_noteAll_61 : decode cX6_noteAll 61 = .ok (.getfield 74, 3) := by decide +kernel
theorem dX6_noteAll_64 : decode cX6_noteAll 64 = .ok (.ifCond .eq 5, 3) := by decide +kernel
theorem dX6_noteAll_67 : decode cX6_noteAll 67 = .ok (.iconst 0, 1) := by decide +kernel
theorem dX6_noteAll_68 : decode cX6_noteAll 68 = .ok (.ireturn, 1) := by decide +kernel
theorem dX6_noteAll_69 : decode cX6_noteAll 69 = .ok (.aload_n 0, 1) := by decide +kernel
theorem dX6_noteAll_70 : decode cX6_noteAll 70 = .ok (.iconst 0, 1) := by decide +kernel
theorem dX6_noteAll_71 : decode cX6_noteAll 71 = .ok (.putfield 151, 3) := by decide +kernel
theorem dX6_noteAll_74 : decode cX6_noteAll 74 = .ok (.iconst 0, 1) := by decide +kernel
theorem dX6_noteAll_75 : decode cX6_noteAll 75 = .ok (.istore_n 2, 1) := by decide +kernel
theorem dX6_noteAll_76 : decode cX6_noteAll 76 = .ok (.iload_n 2, 1) := by decide +kernel
theorem dX6_noteAll_77 : decode cX6_noteAll 77 = .ok (.aload_n 0, 1) := by decide +kernel
theorem dX6_noteAll_78 : decode cX6_noteAll 78 = .ok (.getfield 67, 3) := by decide +kernel
theorem dX6_noteAll_81 : decode cX6_noteAll 81 = .ok (.if_icmp .ge 92, 3) := by decide +kernel
theorem dX6_noteAll_84 : decode cX6_noteAll 84 = .ok (.iconst 0, 1) := by decide +kernel
theorem dX6_noteAll_85 : decode cX6_noteAll 85 = .ok (.istore_n 3, 1) := by decide +kernel
theorem dX6_noteAll_86 : decode cX6_noteAll 86 = .ok (.iload_n 3, 1) := by decide +kernel
theorem dX6_noteAll_87 : decode cX6_noteAll 87 = .ok (.aload_n 0, 1) := by decide +kernel
theorem dX6_noteAll_88 : decode cX6_noteAll 88 = .ok (.getfield 43, 3) := by decide +kernel
theorem dX6_noteAll_91 : decode cX6_noteAll 91 = .ok (.iload_n 2, 1) := by decide +kernel
theorem dX6_noteAll_92 : decode cX6_noteAll 92 = .ok (.iaload, 1) := by decide +kernel
theorem dX6_noteAll_93 : decode cX6_noteAll 93 = .ok (.if_icmp .ge 74, 3) := by decide +kernel
theorem dX6_noteAll_96 : decode cX6_noteAll 96 = .ok (.aload_n 0, 1) := by decide +kernel
theorem dX6_noteAll_97 : decode cX6_noteAll 97 = .ok (.getfield 52, 3) := by decide +kernel
theorem dX6_noteAll_100 : decode cX6_noteAll 100 = .ok (.aload_n 0, 1) := by decide +kernel
theorem dX6_noteAll_101 : decode cX6_noteAll 101 = .ok (.getfield 151, 3) := by decide +kernel
theorem dX6_noteAll_104 : decode cX6_noteAll 104 = .ok (.iload_n 2, 1) := by decide +kernel
theorem dX6_noteAll_105 : decode cX6_noteAll 105 = .ok (.iastore, 1) := by decide +kernel
theorem dX6_noteAll_106 : decode cX6_noteAll 106 = .ok (.iconst 0, 1) := by decide +kernel
theorem dX6_noteAll_107 : decode cX6_noteAll 107 = .ok (.istore 4, 2) := by decide +kernel
theorem dX6_noteAll_109 : decode cX6_noteAll 109 = .ok (.iload 4, 2) := by decide +kernel
theorem dX6_noteAll_111 : decode cX6_noteAll 111 = .ok (.iconst 5, 1) := by decide +kernel
theorem dX6_noteAll_112 : decode cX6_noteAll 112 = .ok (.if_icmp .ge 39, 3) := by decide +kernel
theorem dX6_noteAll_115 : decode cX6_noteAll 115 = .ok (.aload_n 0, 1) := by decide +kernel
theorem dX6_noteAll_116 : decode cX6_noteAll 116 = .ok (.getfield 55, 3) := by decide +kernel
theorem dX6_noteAll_119 : decode cX6_noteAll 119 = .ok (.iconst 5, 1) := by decide +kernel
theorem dX6_noteAll_120 : decode cX6_noteAll 120 = .ok (.aload_n 0, 1) := by decide +kernel
theorem dX6_noteAll_121 : decode cX6_noteAll 121 = .ok (.getfield 151, 3) := by decide +kernel
