theorem dX6_rank_53 : decode cX6_rank 53 = .ok (.iload 4, 2) := by decide +kernel
theorem dX6_rank_55 : decode cX6_rank 55 = .ok (.imul, 1) := by decide +kernel
theorem dX6_rank_56 : decode cX6_rank 56 = .ok (.iload_n 3, 1) := by decide +kernel
theorem dX6_rank_57 : decode cX6_rank 57 = .ok (.iadd, 1) := by decide +kernel
theorem dX6_rank_58 : decode cX6_rank 58 = .ok (.iaload, 1) := by decide +kernel
theorem dX6_rank_59 : decode cX6_rank 59 = .ok (.ifCond .ne 9, 3) := by decide +kernel
theorem dX6_rank_62 : decode cX6_rank 62 = .ok (.iinc 4 1, 3) := by decide +kernel
theorem dX6_rank_65 : decode cX6_rank 65 = .ok (.goto (-26), 3) := by decide +kernel
theorem dX6_rank_68 : decode cX6_rank 68 = .ok (.iload 4, 2) := by decide +kernel
theorem dX6_rank_70 : decode cX6_rank 70 = .ok (.aload_n 0, 1) := by decide +kernel
theorem dX6_rank_71 : decode cX6_rank 71 = .ok (.getfield 84, 3) := by decide +kernel
theorem dX6_rank_74 : decode cX6_rank 74 = .ok (.if_icmp .ge 122, 3) := by decide +kernel
theorem dX6_rank_77 : decode cX6_rank 77 = .ok (.aload_n 0, 1) := by decide +kernel
theorem dX6_rank_78 : decode cX6_rank 78 = .ok (.iload 4, 2) := by decide +kernel
theorem dX6_rank_80 : decode cX6_rank 80 = .ok (.iload_n 1, 1) := by decide +kernel
theorem dX6_rank_81 : decode cX6_rank 81 = .ok (.invokevirtual 87, 3) := by decide +kernel
theorem dX6_rank_84 : decode cX6_rank 84 = .ok (.aload_n 0, 1) := by decide +kernel
theorem dX6_rank_85 : decode cX6_rank 85 = .ok (.getfield 58, 3) := by decide +kernel
theorem dX6_rank_88 : decode cX6_rank 88 = .ok (.iconst 5, 1) := by decide +kernel
theorem dX6_rank_89 : decode cX6_rank 89 = .ok (.iload_n 1, 1) := by decide +kernel
theorem dX6_rank_90 : decode cX6_rank 90 = .ok (.imul, 1) := by decide +kernel
theorem dX6_rank_91 : decode cX6_rank 91 = .ok (.iload_n 3, 1) := by decide +kernel
theorem dX6_rank_92 : decode cX6_rank 92 = .ok (.iadd, 1) := by decide +kernel
theorem dX6_rank_93 : decode cX6_rank 93 = .ok (.iaload, 1) := by decide +kernel
theorem dX6_rank_94 : decode cX6_rank 94 = .ok (.invokestatic 91, 3) := by decide +kernel
theorem dX6_rank_97 : decode cX6_rank 97 = .ok (.istore 5, 2) := by decide +kernel
theorem dX6_rank_99 : decode cX6_rank 99 = .ok (.iconst 0, 1) := by decide +kernel
theorem dX6_rank_100 : decode cX6_rank 100 = .ok (.istore 6, 2) := by decide +kernel
theorem dX6_rank_102 : decode cX6_rank 102 = .ok (.iload 6, 2) := by decide +kernel
theorem dX6_rank_104 : decode cX6_rank 104 = .ok (.iconst 5, 1) := by decide +kernel
theorem dX6_rank_105 : decode cX6_rank 105 = .ok (.if_icmp .ge 39, 3) := by decide +kernel
theorem dX6_rank_108 : decode cX6_rank 108 = .ok (.aload_n 0, 1) := by decide +kernel
theorem dX6_rank_109 : decode cX6_rank 109 = .ok (.getfield 58, 3) := by decide +kernel
theorem dX6_rank_112 : decode cX6_rank 112 = .ok (.iconst 5, 1) := by decide +kernel
theorem dX6_rank_113 : decode cX6_rank 113 = .ok (.iload_n 1, 1) := by decide +kernel
theorem dX6_rank_114 : decode cX6_rank 114 = .ok (.imul, 1) := by decide +kernel
theorem dX6_rank_115 : decode cX6_rank 115 = .ok (.iload 6, 2) := by decide +kernel
theorem dX6_rank_117 : decode cX6_rank 117 = .ok (.iadd, 1) := by decide +kernel
theorem dX6_rank_118 : decode cX6_rank 118 = .ok (.iload 5, 2) := by decide +kernel
theorem dX6_rank_120 : decode cX6_rank 120 = .ok (.i2l, 1) := by decide +kernel
theorem dX6_rank_121 : decode cX6_rank 121 = .ok (.aload_n 0, 1) := by decide +kernel
theorem dX6_rank_122 : decode cX6_rank 122 = .ok (.getfield 58, 3) := by decide +kernel
theorem dX6_rank_125 : decode cX6_rank 125 = .ok (.iconst 5, 1) := by decide +kernel
theorem dX6_rank_126 : decode cX6_rank 126 = .ok (.iload_n 1, 1) := by decide +kernel
theorem dX6_rank_127 : decode cX6_rank 127 = .ok (.imul, 1) := by decide +kernel
theorem dX6_rank_128 : decode cX6_rank 128 = .ok (.iload 6, 2) := by decide +kernel
theorem dX6_rank_130 : decode cX6_rank 130 = .ok (.iadd, 1) := by decide +kernel
theorem dX6_rank_131 : decode cX6_rank 131 = .ok (.iaload, 1) := by decide +kernel
theorem dX6_rank_132 : decode cX6_rank 132 = .ok (.i2l, 1) := by decide +kernel
theorem dX6_rank_133 : decode cX6_rank 133 = .ok (.lmul, 1) := by decide +kernel
theorem dX6_rank_134 : decode cX6_rank 134 = .ok (.invokestatic 80, 3) := by decide +kernel
theorem dX6_rank_137 : decode cX6_rank 137 = .ok (.iastore, 1) := by decide +kernel
theorem dX6_rank_138 : decode cX6_rank 138 = .ok (.iinc 6 1, 3) := by decide +kernel
theorem dX6_rank_141 : decode cX6_rank 141 = .ok (.goto (-39), 3) := by decide +kernel
theorem dX6_rank_144 : decode cX6_rank 144 = .ok (.iconst 0, 1) := by decide +kernel
theorem dX6_rank_145 : decode cX6_rank 145 = .ok (.istore 6, 2) := by decide +kernel
theorem dX6_rank_147 : decode cX6_rank 147 = .ok (.iload 6, 2) := by decide +kernel
theorem dX6_rank_149 : decode cX6_rank 149 = .ok (.aload_n 0, 1) := by decide +kernel
theorem dX6_rank_150 : decode cX6_rank 150 = .ok (.getfield 84, 3) := by decide +kernel
theorem dX6_rank_153 : decode cX6_rank 153 = .ok (.if_icmp .ge 33, 3) := by decide +kernel
theorem dX6_rank_156 : decode cX6_rank 156 = .ok (.iload 6, 2) := by decide +kernel
theorem dX6_rank_158 : decode cX6_rank 158 = .ok (.iload_n 1, 1) := by decide +kernel
theorem dX6_rank_159 : decode cX6_rank 159 = .ok (.if_icmp .eq 21, 3) := by decide +kernel
theorem dX6_rank_162 : decode cX6_rank 162 = .ok (.aload_n 0, 1) := by decide +kernel
theorem dX6_rank_163 : decode cX6_rank 163 = .ok (.iload 6, 2) := by decide +kernel
theorem dX6_rank_165 : decode cX6_rank 165 = .ok (.iload_n 1, 1) := by decide +kernel
theorem dX6_rank_166 : decode cX6_rank 166 = .ok (.aload_n 0, 1) := by decide +kernel
theorem dX6_rank_167 : decode cX6_rank 167 = .ok (.getfield 58, 3) := by decide +kernel
theorem dX6_rank_170 : decode cX6_rank 170 = .ok (.iconst 5, 1) := by decide +kernel
theorem dX6_rank_171 : decode cX6_rank 171 = .ok (.iload 6, 2) := by decide +kernel
theorem dX6_rank_173 : decode cX6_rank 173 = .ok (.imul, 1) := by decide +kernel
theorem dX6_rank_174 : decode cX6_rank 174 = .ok (.iload_n 3, 1) := by decide +kernel
theorem dX6_rank_175 : decode cX6_rank 175 = .ok (.iadd, 1) := by decide +kernel
theorem dX6_rank_176 : decode cX6_rank 176 = .ok (.iaload, 1) := by decide +kernel
theorem dX6_rank_177 : decode cX6_rank 177 = .ok (.invokevirtual 95, 3) := by decide +kernel
theorem dX6_rank_180 : decode cX6_rank 180 = .ok (.iinc 6 1, 3) := by decide +kernel
theorem dX6_rank_183 : decode cX6_rank 183 = .ok (.goto (-36), 3) := by decide +kernel
theorem dX6_rank_186 : decode cX6_rank 186 = .ok (.aload_n 0, 1) := by decide +kernel
theorem dX6_rank_187 : decode cX6_rank 187 = .ok (.getfield 61, 3) := by decide +kernel
theorem dX6_rank_190 : decode cX6_rank 190 = .ok (.iload_n 3, 1) := by decide +kernel
theorem dX6_rank_191 : decode cX6_rank 191 = .ok (.iload_n 1, 1) := by decide +kernel
theorem dX6_rank_192 : decode cX6_rank 192 = .ok (.iastore, 1) := by decide +kernel
theorem dX6_rank_193 : decode cX6_rank 193 = .ok (.iinc 1 1, 3) := by decide +kernel
theorem dX6_rank_196 : decode cX6_rank 196 = .ok (.iinc 2 1, 3) := by decide +kernel
theorem dX6_rank_199 : decode cX6_rank 199 = .ok (.goto (-195), 3) := by decide +kernel
theorem dX6_rank_202 : decode cX6_rank 202 = .ok (.iload_n 1, 1) := by decide +kernel
theorem dX6_rank_203 : decode cX6_rank 203 = .ok (.ireturn, 1) := by decide +kernel
theorem dX6_isNode_0 : decode cX6_isNode 0 = .ok (.iload_n 1, 1) := by decide +kernel
theorem dX6_isNode_1 : decode cX6_isNode 1 = .ok (.ifCond .lt 15, 3) := by decide +kernel
theorem dX6_isNode_4 : decode cX6_isNode 4 = .ok (.iload_n 1, 1) := by decide +kernel
theorem dX6_isNode_5 : decode cX6_isNode 5 = .ok (.aload_n 0, 1) := by decide +kernel
theorem dX6_isNode_6 : decode cX6_isNode 6 = .ok (.getfield 67, 3) := by decide +kernel
theorem dX6_isNode_9 : decode cX6_isNode 9 = .ok (.if_icmp .ge 7, 3) := by decide +kernel
theorem dX6_isNode_12 : decode cX6_isNode 12 = .ok (.iconst 1, 1) := by decide +kernel
theorem dX6_isNode_13 : decode cX6_isNode 13 = .ok (.goto 4, 3) := by decide +kernel
theorem dX6_isNode_16 : decode cX6_isNode 16 = .ok (.iconst 0, 1) := by decide +kernel
theorem dX6_isNode_17 : decode cX6_isNode 17 = .ok (.ireturn, 1) := by decide +kernel
theorem dX6_clearDraft_0 : decode cX6_clearDraft 0 = .ok (.iconst 0, 1) := by decide +kernel
theorem dX6_clearDraft_1 : decode cX6_clearDraft 1 = .ok (.istore_n 1, 1) := by decide +kernel
theorem dX6_clearDraft_2 : decode cX6_clearDraft 2 = .ok (.iload_n 1, 1) := by decide +kernel
theorem dX6_clearDraft_3 : decode cX6_clearDraft 3 = .ok (.iconst 5, 1) := by decide +kernel
theorem dX6_clearDraft_4 : decode cX6_clearDraft 4 = .ok (.if_icmp .ge 16, 3) := by decide +kernel
theorem dX6_clearDraft_7 : decode cX6_clearDraft 7 = .ok (.aload_n 0, 1) := by decide +kernel
theorem dX6_clearDraft_8 : decode cX6_clearDraft 8 = .ok (.getfield 7, 3) := by decide +kernel
theorem dX6_clearDraft_11 : decode cX6_clearDraft 11 = .ok (.iload_n 1, 1) := by decide +kernel
theorem dX6_clearDraft_12 : decode cX6_clearDraft 12 = .ok (.iconst 0, 1) := by decide +kernel
theorem dX6_clearDraft_13 : decode cX6_clearDraft 13 = .ok (.iastore, 1) := by decide +kernel
theorem dX6_clearDraft_14 : decode cX6_clearDraft 14 = .ok (.iinc 1 1, 3) := by decide +kernel
theorem dX6_clearDraft_17 : decode cX6_clearDraft 17 = .ok (.goto (-15), 3) := by decide +kernel
theorem dX6_clearDraft_20 : decode cX6_clearDraft 20 = .ok (.return_, 1) := by decide +kernel
set_option maxRecDepth 20000 in
theorem ggX6_term_X6_mod : GoodIn wsX6_term wsX6_mod := goodIn_r _ [7, 8] (by decide +kernel) (by decide +kernel)
set_option maxRecDepth 20000 in
theorem gX6_term_X6_mod : GoodIn wsX6_term (va_wsS RX6 80 yX6_mod wsX6_mod) := goodIn_app (goodIn_of _ (by decide +kernel)) ggX6_term_X6_mod
theorem dX6_term_0 : decode cX6_term 0 = .ok (.aload_n 0, 1) := by decide +kernel
theorem dX6_term_1 : decode cX6_term 1 = .ok (.iload_n 1, 1) := by decide +kernel
theorem dX6_term_2 : decode cX6_term 2 = .ok (.ifCond .lt 11, 3) := by decide +kernel
theorem dX6_term_5 : decode cX6_term 5 = .ok (.iload_n 1, 1) := by decide +kernel
theorem dX6_term_6 : decode cX6_term 6 = .ok (.aload_n 0, 1) := by decide +kernel
theorem dX6_term_7 : decode cX6_term 7 = .ok (.getfield 71, 3) := by decide +kernel
theorem dX6_term_10 : decode cX6_term 10 = .ok (.if_icmp .le 7, 3) := by decide +kernel
theorem dX6_term_13 : decode cX6_term 13 = .ok (.iconst 1, 1) := by decide +kernel
theorem dX6_term_14 : decode cX6_term 14 = .ok (.goto 4, 3) := by decide +kernel
theorem dX6_term_17 : decode cX6_term 17 = .ok (.iconst 0, 1) := by decide +kernel
theorem dX6_term_18 : decode cX6_term 18 = .ok (.putfield 74, 3) := by decide +kernel
theorem dX6_term_21 : decode cX6_term 21 = .ok (.aload_n 0, 1) := by decide +kernel
theorem dX6_term_22 : decode cX6_term 22 = .ok (.getfield 74, 3) := by decide +kernel
theorem dX6_term_25 : decode cX6_term 25 = .ok (.ifCond .ne 14, 3) := by decide +kernel
theorem dX6_term_28 : decode cX6_term 28 = .ok (.aload_n 0, 1) := by decide +kernel
theorem dX6_term_29 : decode cX6_term 29 = .ok (.getfield 7, 3) := by decide +kernel
theorem dX6_term_32 : decode cX6_term 32 = .ok (.iload_n 1, 1) := by decide +kernel
theorem dX6_term_33 : decode cX6_term 33 = .ok (.iload_n 2, 1) := by decide +kernel
theorem dX6_term_34 : decode cX6_term 34 = .ok (.i2l, 1) := by decide +kernel
theorem dX6_term_35 : decode cX6_term 35 = .ok (.invokestatic 80, 3) := by decide +kernel
theorem dX6_term_38 : decode cX6_term 38 = .ok (.iastore, 1) := by decide +kernel
theorem dX6_term_39 : decode cX6_term 39 = .ok (.return_, 1) := by decide +kernel
set_option maxRecDepth 20000 in
theorem ggX6_edge_X6_isNode : GoodIn wsX6_edge wsX6_isNode := goodIn_r _ [15, 16, 21, 22, 23, 24, 25, 26, 27, 28, 29, 30, 31, 32, 33, 34, 35, 36, 37, 38, 39, 40, 41, 42, 43, 44, 45, 46, 47, 48, 49] (by decide +kernel) (by decide +kernel)
set_option maxRecDepth 20000 in
theorem gX6_edge_X6_isNode : GoodIn wsX6_edge (wsV RX6 99 RX6 yX6_isNode wsX6_isNode) := goodIn_app (goodIn_of _ (by decide +kernel)) ggX6_edge_X6_isNode
set_option maxRecDepth 20000 in
theorem ggX6_edge_X6_clearDraft : GoodIn wsX6_edge wsX6_clearDraft := goodIn_r _ [20, 9, 21, 22, 23, 24, 25, 26, 27, 28, 29, 30, 31, 32, 33, 34, 35, 36, 37, 38, 39, 40, 41, 42, 43, 44, 45, 46, 47, 48, 49] (by decide +kernel) (by decide +kernel)
set_option maxRecDepth 20000 in
theorem gX6_edge_X6_clearDraft : GoodIn wsX6_edge (wsV RX6 106 RX6 yX6_clearDraft wsX6_clearDraft) := goodIn_app (goodIn_of _ (by decide +kernel)) ggX6_edge_X6_clearDraft
theorem dX6_edge_0 : decode cX6_edge 0 = .ok (.iload_n 3, 1) := by decide +kernel
theorem dX6_edge_1 : decode cX6_edge 1 = .ok (.iconst 1, 1) := by decide +kernel
theorem dX6_edge_2 : decode cX6_edge 2 = .ok (.if_icmp .eq 8, 3) := by decide +kernel
theorem dX6_edge_5 : decode cX6_edge 5 = .ok (.iload_n 3, 1) := by decide +kernel
theorem dX6_edge_6 : decode cX6_edge 6 = .ok (.iconst 2, 1) := by decide +kernel
theorem dX6_edge_7 : decode cX6_edge 7 = .ok (.if_icmp .ne 7, 3) := by decide +kernel
theorem dX6_edge_10 : decode cX6_edge 10 = .ok (.iconst 1, 1) := by decide +kernel
theorem dX6_edge_11 : decode cX6_edge 11 = .ok (.goto 4, 3) := by decide +kernel
theorem dX6_edge_14 : decode cX6_edge 14 = .ok (.iconst 0, 1) := by decide +kernel
theorem dX6_edge_15 : decode cX6_edge 15 = .ok (.istore 5, 2) := by decide +kernel
theorem dX6_edge_17 : decode cX6_edge 17 = .ok (.aload_n 0, 1) := by decide +kernel
theorem dX6_edge_18 : decode cX6_edge 18 = .ok (.iload_n 1, 1) := by decide +kernel
theorem dX6_edge_19 : decode cX6_edge 19 = .ok (.invokevirtual 99, 3) := by decide +kernel
theorem dX6_edge_22 : decode cX6_edge 22 = .ok (.ifCond .eq 44, 3) := by decide +kernel
theorem dX6_edge_25 : decode cX6_edge 25 = .ok (.aload_n 0, 1) := by decide +kernel
theorem dX6_edge_26 : decode cX6_edge 26 = .ok (.iload_n 2, 1) := by decide +kernel
theorem dX6_edge_27 : decode cX6_edge 27 = .ok (.invokevirtual 99, 3) := by decide +kernel
theorem dX6_edge_30 : decode cX6_edge 30 = .ok (.ifCond .eq 36, 3) := by decide +kernel
theorem dX6_edge_33 : decode cX6_edge 33 = .ok (.iload_n 3, 1) := by decide +kernel
theorem dX6_edge_34 : decode cX6_edge 34 = .ok (.ifCond .lt 32, 3) := by decide +kernel
theorem dX6_edge_37 : decode cX6_edge 37 = .ok (.iload_n 3, 1) := by decide +kernel
theorem dX6_edge_38 : decode cX6_edge 38 = .ok (.iconst 4, 1) := by decide +kernel
theorem dX6_edge_39 : decode cX6_edge 39 = .ok (.if_icmp .gt 27, 3) := by decide +kernel
theorem dX6_edge_42 : decode cX6_edge 42 = .ok (.iload 5, 2) := by decide +kernel
theorem dX6_edge_44 : decode cX6_edge 44 = .ok (.ifCond .eq 18, 3) := by decide +kernel
theorem dX6_edge_47 : decode cX6_edge 47 = .ok (.iload 4, 2) := by decide +kernel
theorem dX6_edge_49 : decode cX6_edge 49 = .ok (.iconst 1, 1) := by decide +kernel
theorem dX6_edge_50 : decode cX6_edge 50 = .ok (.if_icmp .lt 16, 3) := by decide +kernel
theorem dX6_edge_53 : decode cX6_edge 53 = .ok (.iload 4, 2) := by decide +kernel
theorem dX6_edge_55 : decode cX6_edge 55 = .ok (.aload_n 0, 1) := by decide +kernel
theorem dX6_edge_56 : decode cX6_edge 56 = .ok (.getfield 71, 3) := by decide +kernel
theorem dX6_edge_59 : decode cX6_edge 59 = .ok (.if_icmp .gt 7, 3) := by decide +kernel
theorem dX6_edge_62 : decode cX6_edge 62 = .ok (.iconst 1, 1) := by decide +kernel
theorem dX6_edge_63 : decode cX6_edge 63 = .ok (.goto 4, 3) := by decide +kernel
theorem dX6_edge_66 : decode cX6_edge 66 = .ok (.iconst 0, 1) := by decide +kernel
theorem dX6_edge_67 : decode cX6_edge 67 = .ok (.istore 6, 2) := by decide +kernel
theorem dX6_edge_69 : decode cX6_edge 69 = .ok (.aload_n 0, 1) := by decide +kernel
theorem dX6_edge_70 : decode cX6_edge 70 = .ok (.iload 6, 2) := by decide +kernel
theorem dX6_edge_72 : decode cX6_edge 72 = .ok (.ifCond .ne 7, 3) := by decide +kernel
theorem dX6_edge_75 : decode cX6_edge 75 = .ok (.iconst 1, 1) := by decide +kernel
theorem dX6_edge_76 : decode cX6_edge 76 = .ok (.goto 17, 3) := by decide +kernel
theorem dX6_edge_79 : decode cX6_edge 79 = .ok (.aload_n 0, 1) := by decide +kernel
theorem dX6_edge_80 : decode cX6_edge 80 = .ok (.getfield 103, 3) := by decide +kernel
theorem dX6_edge_83 : decode cX6_edge 83 = .ok (.bipush 20, 2) := by decide +kernel
theorem dX6_edge_85 : decode cX6_edge 85 = .ok (.if_icmp .ne 7, 3) := by decide +kernel
theorem dX6_edge_88 : decode cX6_edge 88 = .ok (.iconst 2, 1) := by decide +kernel
theorem dX6_edge_89 : decode cX6_edge 89 = .ok (.goto 4, 3) := by decide +kernel
theorem dX6_edge_92 : decode cX6_edge 92 = .ok (.iconst 0, 1) := by decide +kernel
theorem dX6_edge_93 : decode cX6_edge 93 = .ok (.putfield 74, 3) := by decide +kernel
theorem dX6_edge_96 : decode cX6_edge 96 = .ok (.aload_n 0, 1) := by decide +kernel
theorem dX6_edge_97 : decode cX6_edge 97 = .ok (.getfield 74, 3) := by decide +kernel
theorem dX6_edge_100 : decode cX6_edge 100 = .ok (.ifCond .eq 5, 3) := by decide +kernel
theorem dX6_edge_103 : decode cX6_edge 103 = .ok (.iconst 0, 1) := by decide +kernel
theorem dX6_edge_104 : decode cX6_edge 104 = .ok (.ireturn, 1) := by decide +kernel
theorem dX6_edge_105 : decode cX6_edge 105 = .ok (.aload_n 0, 1) := by decide +kernel
theorem dX6_edge_106 : decode cX6_edge 106 = .ok (.getfield 13, 3) := by decide +kernel
theorem dX6_edge_109 : decode cX6_edge 109 = .ok (.aload_n 0, 1) := by decide +kernel
theorem dX6_edge_110 : decode cX6_edge 110 = .ok (.getfield 103, 3) := by decide +kernel
theorem dX6_edge_113 : decode cX6_edge 113 = .ok (.iload_n 1, 1) := by decide +kernel
theorem dX6_edge_114 : decode cX6_edge 114 = .ok (.iastore, 1) := by decide +kernel
theorem dX6_edge_115 : decode cX6_edge 115 = .ok (.aload_n 0, 1) := by decide +kernel
theorem dX6_edge_116 : decode cX6_edge 116 = .ok (.getfield 16, 3) := by decide +kernel
theorem dX6_edge_119 : decode cX6_edge 119 = .ok (.aload_n 0, 1) := by decide +kernel
theorem dX6_edge_120 : decode cX6_edge 120 = .ok (.getfield 103, 3) := by decide +kernel
theorem dX6_edge_123 : decode cX6_edge 123 = .ok (.iload_n 2, 1) := by decide +kernel
theorem dX6_edge_124 : decode cX6_edge 124 = .ok (.iastore, 1) := by decide +kernel
theorem dX6_edge_125 : decode cX6_edge 125 = .ok (.aload_n 0, 1) := by decide +kernel
theorem dX6_edge_126 : decode cX6_edge 126 = .ok (.getfield 19, 3) := by decide +kernel
theorem dX6_edge_129 : decode cX6_edge 129 = .ok (.aload_n 0, 1) := by decide +kernel
theorem dX6_edge_130 : decode cX6_edge 130 = .ok (.getfield 103, 3) := by decide +kernel
theorem dX6_edge_133 : decode cX6_edge 133 = .ok (.iload_n 3, 1) := by decide +kernel
theorem dX6_edge_134 : decode cX6_edge 134 = .ok (.iastore, 1) := by decide +kernel
theorem dX6_edge_135 : decode cX6_edge 135 = .ok (.aload_n 0, 1) := by decide +kernel
theorem dX6_edge_136 : decode cX6_edge 136 = .ok (.getfield 22, 3) := by decide +kernel
theorem dX6_edge_139 : decode cX6_edge 139 = .ok (.aload_n 0, 1) := by decide +kernel
theorem dX6_edge_140 : decode cX6_edge 140 = .ok (.getfield 103, 3) := by decide +kernel
theorem dX6_edge_143 : decode cX6_edge 143 = .ok (.iload 4, 2) := by decide +kernel
theorem dX6_edge_145 : decode cX6_edge 145 = .ok (.iastore, 1) := by decide +kernel
theorem dX6_edge_146 : decode cX6_edge 146 = .ok (.iconst 0, 1) := by decide +kernel
theorem dX6_edge_147 : decode cX6_edge 147 = .ok (.istore 7, 2) := by decide +kernel
theorem dX6_edge_149 : decode cX6_edge 149 = .ok (.iload 7, 2) := by decide +kernel
theorem dX6_edge_151 : decode cX6_edge 151 = .ok (.iconst 5, 1) := by decide +kernel
theorem dX6_edge_152 : decode cX6_edge 152 = .ok (.if_icmp .ge 30, 3) := by decide +kernel
theorem dX6_edge_155 : decode cX6_edge 155 = .ok (.aload_n 0, 1) := by decide +kernel
theorem dX6_edge_156 : decode cX6_edge 156 = .ok (.getfield 25, 3) := by decide +kernel
theorem dX6_edge_159 : decode cX6_edge 159 = .ok (.iconst 5, 1) := by decide +kernel
theorem dX6_edge_160 : decode cX6_edge 160 = .ok (.aload_n 0, 1) := by decide +kernel
theorem dX6_edge_161 : decode cX6_edge 161 = .ok (.getfield 103, 3) := by decide +kernel
theorem dX6_edge_164 : decode cX6_edge 164 = .ok (.imul, 1) := by decide +kernel
theorem dX6_edge_165 : decode cX6_edge 165 = .ok (.iload 7, 2) := by decide +kernel
theorem dX6_edge_167 : decode cX6_edge 167 = .ok (.iadd, 1) := by decide +kernel
theorem dX6_edge_168 : decode cX6_edge 168 = .ok (.aload_n 0, 1) := by decide +kernel
theorem dX6_edge_169 : decode cX6_edge 169 = .ok (.getfield 7, 3) := by decide +kernel
theorem dX6_edge_172 : decode cX6_edge 172 = .ok (.iload 7, 2) := by decide +kernel
theorem dX6_edge_174 : decode cX6_edge 174 = .ok (.iaload, 1) := by decide +kernel
theorem dX6_edge_175 : decode cX6_edge 175 = .ok (.iastore, 1) := by decide +kernel
theorem dX6_edge_176 : decode cX6_edge 176 = .ok (.iinc 7 1, 3) := by decide +kernel
theorem dX6_edge_179 : decode cX6_edge 179 = .ok (.goto (-30), 3) := by decide +kernel
theorem dX6_edge_182 : decode cX6_edge 182 = .ok (.aload_n 0, 1) := by decide +kernel
theorem dX6_edge_183 : decode cX6_edge 183 = .ok (.invokevirtual 106, 3) := by decide +kernel
theorem dX6_edge_186 : decode cX6_edge 186 = .ok (.aload_n 0, 1) := by decide +kernel
theorem dX6_edge_187 : decode cX6_edge 187 = .ok (.iconst 0, 1) := by decide +kernel
theorem dX6_edge_188 : decode cX6_edge 188 = .ok (.putfield 109, 3) := by decide +kernel
theorem dX6_edge_191 : decode cX6_edge 191 = .ok (.aload_n 0, 1) := by decide +kernel
theorem dX6_edge_192 : decode cX6_edge 192 = .ok (.dup, 1) := by decide +kernel
theorem dX6_edge_193 : decode cX6_edge 193 = .ok (.getfield 103, 3) := by decide +kernel
theorem dX6_edge_196 : decode cX6_edge 196 = .ok (.iconst 1, 1) := by decide +kernel
theorem dX6_edge_197 : decode cX6_edge 197 = .ok (.iadd, 1) := by decide +kernel
theorem dX6_edge_198 : decode cX6_edge 198 = .ok (.putfield 103, 3) := by decide +kernel
theorem dX6_edge_201 : decode cX6_edge 201 = .ok (.aload_n 0, 1) := by decide +kernel
theorem dX6_edge_202 : decode cX6_edge 202 = .ok (.getfield 103, 3) := by decide +kernel
theorem dX6_edge_205 : decode cX6_edge 205 = .ok (.iconst 1, 1) := by decide +kernel
theorem dX6_edge_206 : decode cX6_edge 206 = .ok (.isub, 1) := by decide +kernel
theorem dX6_edge_207 : decode cX6_edge 207 = .ok (.ireturn, 1) := by decide +kernel
set_option maxRecDepth 20000 in
theorem ggX6_entry_X6_isNode : GoodIn wsX6_entry wsX6_isNode := goodIn_r _ [9, 10, 11, 12, 13, 14, 15, 16, 17, 18, 19, 20, 21, 22, 23, 24, 25, 26, 27, 28, 29, 30, 31, 32, 33, 34, 35, 36, 37, 38, 39] (by decide +kernel) (by decide +kernel)
set_option maxRecDepth 20000 in
theorem gX6_entry_X6_isNode : GoodIn wsX6_entry (wsV RX6 99 RX6 yX6_isNode wsX6_isNode) := goodIn_app (goodIn_of _ (by decide +kernel)) ggX6_entry_X6_isNode
theorem dX6_entry_0 : decode cX6_entry 0 = .ok (.aload_n 0, 1) := by decide +kernel
theorem dX6_entry_1 : decode cX6_entry 1 = .ok (.aload_n 0, 1) := by decide +kernel
theorem dX6_entry_2 : decode cX6_entry 2 = .ok (.iload_n 1, 1) := by decide +kernel
theorem dX6_entry_3 : decode cX6_entry 3 = .ok (.invokevirtual 99, 3) := by decide +kernel
theorem dX6_entry_6 : decode cX6_entry 6 = .ok (.ifCond .eq 7, 3) := by decide +kernel
theorem dX6_entry_9 : decode cX6_entry 9 = .ok (.iconst 0, 1) := by decide +kernel
theorem dX6_entry_10 : decode cX6_entry 10 = .ok (.goto 4, 3) := by decide +kernel
theorem dX6_entry_13 : decode cX6_entry 13 = .ok (.iconst 1, 1) := by decide +kernel
theorem dX6_entry_14 : decode cX6_entry 14 = .ok (.putfield 74, 3) := by decide +kernel
theorem dX6_entry_17 : decode cX6_entry 17 = .ok (.aload_n 0, 1) := by decide +kernel
theorem dX6_entry_18 : decode cX6_entry 18 = .ok (.getfield 74, 3) := by decide +kernel
theorem dX6_entry_21 : decode cX6_entry 21 = .ok (.ifCond .eq 4, 3) := by decide +kernel
theorem dX6_entry_24 : decode cX6_entry 24 = .ok (.return_, 1) := by decide +kernel
theorem dX6_entry_25 : decode cX6_entry 25 = .ok (.aload_n 0, 1) := by decide +kernel
theorem dX6_entry_26 : decode cX6_entry 26 = .ok (.iload_n 1, 1) := by decide +kernel
theorem dX6_entry_27 : decode cX6_entry 27 = .ok (.putfield 113, 3) := by decide +kernel
theorem dX6_entry_30 : decode cX6_entry 30 = .ok (.aload_n 0, 1) := by decide +kernel
theorem dX6_entry_31 : decode cX6_entry 31 = .ok (.iload_n 1, 1) := by decide +kernel
theorem dX6_entry_32 : decode cX6_entry 32 = .ok (.putfield 116, 3) := by decide +kernel
theorem dX6_entry_35 : decode cX6_entry 35 = .ok (.aload_n 0, 1) := by decide +kernel
theorem dX6_entry_36 : decode cX6_entry 36 = .ok (.iconst 0, 1) := by decide +kernel
theorem dX6_entry_37 : decode cX6_entry 37 = .ok (.putfield 109, 3) := by decide +kernel
theorem dX6_entry_40 : decode cX6_entry 40 = .ok (.return_, 1) := by decide +kernel
set_option maxRecDepth 20000 in
theorem ggX6_formValue_X6_mod : GoodIn wsX6_formValue wsX6_mod := goodIn_r _ [6, 7] (by decide +kernel) (by decide +kernel)
set_option maxRecDepth 20000 in
theorem gX6_formValue_X6_mod : GoodIn wsX6_formValue (va_wsS RX6 80 yX6_mod wsX6_mod) := goodIn_app (goodIn_of _ (by decide +kernel)) ggX6_formValue_X6_mod
theorem dX6_formValue_0 : decode cX6_formValue 0 = .ok (.lconst 0, 1) := by decide +kernel
theorem dX6_formValue_1 : decode cX6_formValue 1 = .ok (.lstore_n 2, 1) := by decide +kernel
theorem dX6_formValue_2 : decode cX6_formValue 2 = .ok (.iconst 0, 1) := by decide +kernel
theorem dX6_formValue_3 : decode cX6_formValue 3 = .ok (.istore 4, 2) := by decide +kernel
theorem dX6_formValue_5 : decode cX6_formValue 5 = .ok (.iload 4, 2) := by decide +kernel
theorem dX6_formValue_7 : decode cX6_formValue 7 = .ok (.iconst 5, 1) := by decide +kernel
theorem dX6_formValue_8 : decode cX6_formValue 8 = .ok (.if_icmp .ge 33, 3) := by decide +kernel
theorem dX6_formValue_11 : decode cX6_formValue 11 = .ok (.lload_n 2, 1) := by decide +kernel
theorem dX6_formValue_12 : decode cX6_formValue 12 = .ok (.aload_n 0, 1) := by decide +kernel
theorem dX6_formValue_13 : decode cX6_formValue 13 = .ok (.getfield 25, 3) := by decide +kernel
theorem dX6_formValue_16 : decode cX6_formValue 16 = .ok (.iconst 5, 1) := by decide +kernel
theorem dX6_formValue_17 : decode cX6_formValue 17 = .ok (.iload_n 1, 1) := by decide +kernel
theorem dX6_formValue_18 : decode cX6_formValue 18 = .ok (.imul, 1) := by decide +kernel
theorem dX6_formValue_19 : decode cX6_formValue 19 = .ok (.iload 4, 2) := by decide +kernel
theorem dX6_formValue_21 : decode cX6_formValue 21 = .ok (.iadd, 1) := by decide +kernel
theorem dX6_formValue_22 : decode cX6_formValue 22 = .ok (.iaload, 1) := by decide +kernel
theorem dX6_formValue_23 : decode cX6_formValue 23 = .ok (.i2l, 1) := by decide +kernel
theorem dX6_formValue_24 : decode cX6_formValue 24 = .ok (.aload_n 0, 1) := by decide +kernel
theorem dX6_formValue_25 : decode cX6_formValue 25 = .ok (.getfield 64, 3) := by decide +kernel
theorem dX6_formValue_28 : decode cX6_formValue 28 = .ok (.iload 4, 2) := by decide +kernel
theorem dX6_formValue_30 : decode cX6_formValue 30 = .ok (.iaload, 1) := by decide +kernel
theorem dX6_formValue_31 : decode cX6_formValue 31 = .ok (.i2l, 1) := by decide +kernel
theorem dX6_formValue_32 : decode cX6_formValue 32 = .ok (.lmul, 1) := by decide +kernel
theorem dX6_formValue_33 : decode cX6_formValue 33 = .ok (.ladd, 1) := by decide +kernel
theorem dX6_formValue_34 : decode cX6_formValue 34 = .ok (.lstore_n 2, 1) := by decide +kernel
theorem dX6_formValue_35 : decode cX6_formValue 35 = .ok (.iinc 4 1, 3) := by decide +kernel
theorem dX6_formValue_38 : decode cX6_formValue 38 = .ok (.goto (-33), 3) := by decide +kernel
theorem dX6_formValue_41 : decode cX6_formValue 41 = .ok (.lload_n 2, 1) := by decide +kernel
theorem dX6_formValue_42 : decode cX6_formValue 42 = .ok (.invokestatic 80, 3) := by decide +kernel
theorem dX6_formValue_45 : decode cX6_formValue 45 = .ok (.ireturn, 1) := by decide +kernel
set_option maxRecDepth 20000 in
theorem ggX6_change_X6_formValue : GoodIn wsX6_change wsX6_formValue := goodIn_r _ [8, 9, 2, 10, 11, 7, 12, 13, 14, 15, 16, 17, 18, 19, 20, 21, 22, 23, 24, 25, 26, 27, 28, 29, 30, 31, 32, 33, 34, 35, 36, 37, 38, 39, 40, 41, 42] (by decide +kernel) (by decide +kernel)
set_option maxRecDepth 20000 in
theorem gX6_change_X6_formValue : GoodIn wsX6_change (wsV RX6 119 RX6 yX6_formValue wsX6_formValue) := goodIn_app (goodIn_of _ (by decide +kernel)) ggX6_change_X6_formValue
theorem dX6_change_0 : decode cX6_change 0 = .ok (.aload_n 0, 1) := by decide +kernel
theorem dX6_change_1 : decode cX6_change 1 = .ok (.getfield 19, 3) := by decide +kernel
theorem dX6_change_4 : decode cX6_change 4 = .ok (.iload_n 1, 1) := by decide +kernel
theorem dX6_change_5 : decode cX6_change 5 = .ok (.iaload, 1) := by decide +kernel
theorem dX6_change_6 : decode cX6_change 6 = .ok (.iconst 1, 1) := by decide +kernel
theorem dX6_change_7 : decode cX6_change 7 = .ok (.if_icmp .ne 19, 3) := by decide +kernel
theorem dX6_change_10 : decode cX6_change 10 = .ok (.aload_n 0, 1) := by decide +kernel
theorem dX6_change_11 : decode cX6_change 11 = .ok (.getfield 64, 3) := by decide +kernel
theorem dX6_change_14 : decode cX6_change 14 = .ok (.aload_n 0, 1) := by decide +kernel
theorem dX6_change_15 : decode cX6_change 15 = .ok (.getfield 22, 3) := by decide +kernel
theorem dX6_change_18 : decode cX6_change 18 = .ok (.iload_n 1, 1) := by decide +kernel
theorem dX6_change_19 : decode cX6_change 19 = .ok (.iaload, 1) := by decide +kernel
theorem dX6_change_20 : decode cX6_change 20 = .ok (.aload_n 0, 1) := by decide +kernel
theorem dX6_change_21 : decode cX6_change 21 = .ok (.iload_n 1, 1) := by decide +kernel
theorem dX6_change_22 : decode cX6_change 22 = .ok (.invokevirtual 119, 3) := by decide +kernel
theorem dX6_change_25 : decode cX6_change 25 = .ok (.iastore, 1) := by decide +kernel
theorem dX6_change_26 : decode cX6_change 26 = .ok (.aload_n 0, 1) := by decide +kernel
theorem dX6_change_27 : decode cX6_change 27 = .ok (.getfield 19, 3) := by decide +kernel
theorem dX6_change_30 : decode cX6_change 30 = .ok (.iload_n 1, 1) := by decide +kernel
theorem dX6_change_31 : decode cX6_change 31 = .ok (.iaload, 1) := by decide +kernel
theorem dX6_change_32 : decode cX6_change 32 = .ok (.iconst 2, 1) := by decide +kernel
theorem dX6_change_33 : decode cX6_change 33 = .ok (.if_icmp .ne 15, 3) := by decide +kernel
theorem dX6_change_36 : decode cX6_change 36 = .ok (.aload_n 0, 1) := by decide +kernel
theorem dX6_change_37 : decode cX6_change 37 = .ok (.getfield 64, 3) := by decide +kernel
theorem dX6_change_40 : decode cX6_change 40 = .ok (.aload_n 0, 1) := by decide +kernel
theorem dX6_change_41 : decode cX6_change 41 = .ok (.getfield 22, 3) := by decide +kernel
theorem dX6_change_44 : decode cX6_change 44 = .ok (.iload_n 1, 1) := by decide +kernel
theorem dX6_change_45 : decode cX6_change 45 = .ok (.iaload, 1) := by decide +kernel
theorem dX6_change_46 : decode cX6_change 46 = .ok (.iload_n 2, 1) := by decide +kernel
theorem dX6_change_47 : decode cX6_change 47 = .ok (.iastore, 1) := by decide +kernel
theorem dX6_change_48 : decode cX6_change 48 = .ok (.return_, 1) := by decide +kernel
set_option maxRecDepth 20000 in
theorem ggX6_layPoints_X6_put : GoodIn wsX6_layPoints wsX6_put := goodIn_r _ [8, 9, 1, 10, 11, 12, 13, 14, 15, 16, 17, 18, 19, 20, 21, 22, 23, 24, 25, 26, 27, 28, 29, 30, 31, 32, 33, 34, 35, 36, 37, 38] (by decide +kernel) (by decide +kernel)
set_option maxRecDepth 20000 in
theorem gX6_layPoints_X6_put : GoodIn wsX6_layPoints (wsV RX6 122 RX6 yX6_put wsX6_put) := goodIn_app (goodIn_of _ (by decide +kernel)) ggX6_layPoints_X6_put
theorem dX6_layPoints_0 : decode cX6_layPoints 0 = .ok (.aload_n 0, 1) := by decide +kernel
theorem dX6_layPoints_1 : decode cX6_layPoints 1 = .ok (.iconst 0, 1) := by decide +kernel
theorem dX6_layPoints_2 : decode cX6_layPoints 2 = .ok (.putfield 84, 3) := by decide +kernel
theorem dX6_layPoints_5 : decode cX6_layPoints 5 = .ok (.iconst 0, 1) := by decide +kernel
theorem dX6_layPoints_6 : decode cX6_layPoints 6 = .ok (.istore_n 2, 1) := by decide +kernel
theorem dX6_layPoints_7 : decode cX6_layPoints 7 = .ok (.iload_n 2, 1) := by decide +kernel
theorem dX6_layPoints_8 : decode cX6_layPoints 8 = .ok (.aload_n 0, 1) := by decide +kernel
theorem dX6_layPoints_9 : decode cX6_layPoints 9 = .ok (.getfield 28, 3) := by decide +kernel
theorem dX6_layPoints_12 : decode cX6_layPoints 12 = .ok (.iload_n 1, 1) := by decide +kernel
theorem dX6_layPoints_13 : decode cX6_layPoints 13 = .ok (.iaload, 1) := by decide +kernel
theorem dX6_layPoints_14 : decode cX6_layPoints 14 = .ok (.if_icmp .ge 52, 3) := by decide +kernel
theorem dX6_layPoints_17 : decode cX6_layPoints 17 = .ok (.iconst 0, 1) := by decide +kernel
theorem dX6_layPoints_18 : decode cX6_layPoints 18 = .ok (.istore_n 3, 1) := by decide +kernel
theorem dX6_layPoints_19 : decode cX6_layPoints 19 = .ok (.iload_n 3, 1) := by decide +kernel
theorem dX6_layPoints_20 : decode cX6_layPoints 20 = .ok (.iconst 5, 1) := by decide +kernel
theorem dX6_layPoints_21 : decode cX6_layPoints 21 = .ok (.if_icmp .ge 29, 3) := by decide +kernel
theorem dX6_layPoints_24 : decode cX6_layPoints 24 = .ok (.aload_n 0, 1) := by decide +kernel
theorem dX6_layPoints_25 : decode cX6_layPoints 25 = .ok (.iload_n 3, 1) := by decide +kernel
theorem dX6_layPoints_26 : decode cX6_layPoints 26 = .ok (.aload_n 0, 1) := by decide +kernel
theorem dX6_layPoints_27 : decode cX6_layPoints 27 = .ok (.getfield 31, 3) := by decide +kernel
theorem dX6_layPoints_30 : decode cX6_layPoints 30 = .ok (.bipush 25, 2) := by decide +kernel
theorem dX6_layPoints_32 : decode cX6_layPoints 32 = .ok (.iload_n 1, 1) := by decide +kernel
theorem dX6_layPoints_33 : decode cX6_layPoints 33 = .ok (.imul, 1) := by decide +kernel
theorem dX6_layPoints_34 : decode cX6_layPoints 34 = .ok (.iconst 5, 1) := by decide +kernel
theorem dX6_layPoints_35 : decode cX6_layPoints 35 = .ok (.iload_n 2, 1) := by decide +kernel
theorem dX6_layPoints_36 : decode cX6_layPoints 36 = .ok (.imul, 1) := by decide +kernel
theorem dX6_layPoints_37 : decode cX6_layPoints 37 = .ok (.iadd, 1) := by decide +kernel
theorem dX6_layPoints_38 : decode cX6_layPoints 38 = .ok (.iload_n 3, 1) := by decide +kernel
theorem dX6_layPoints_39 : decode cX6_layPoints 39 = .ok (.iadd, 1) := by decide +kernel
theorem dX6_layPoints_40 : decode cX6_layPoints 40 = .ok (.iaload, 1) := by decide +kernel
theorem dX6_layPoints_41 : decode cX6_layPoints 41 = .ok (.invokevirtual 122, 3) := by decide +kernel
theorem dX6_layPoints_44 : decode cX6_layPoints 44 = .ok (.iinc 3 1, 3) := by decide +kernel
theorem dX6_layPoints_47 : decode cX6_layPoints 47 = .ok (.goto (-28), 3) := by decide +kernel
theorem dX6_layPoints_50 : decode cX6_layPoints 50 = .ok (.aload_n 0, 1) := by decide +kernel
theorem dX6_layPoints_51 : decode cX6_layPoints 51 = .ok (.dup, 1) := by decide +kernel
theorem dX6_layPoints_52 : decode cX6_layPoints 52 = .ok (.getfield 84, 3) := by decide +kernel
theorem dX6_layPoints_55 : decode cX6_layPoints 55 = .ok (.iconst 1, 1) := by decide +kernel
theorem dX6_layPoints_56 : decode cX6_layPoints 56 = .ok (.iadd, 1) := by decide +kernel
theorem dX6_layPoints_57 : decode cX6_layPoints 57 = .ok (.putfield 84, 3) := by decide +kernel
theorem dX6_layPoints_60 : decode cX6_layPoints 60 = .ok (.iinc 2 1, 3) := by decide +kernel
theorem dX6_layPoints_63 : decode cX6_layPoints 63 = .ok (.goto (-56), 3) := by decide +kernel
theorem dX6_layPoints_66 : decode cX6_layPoints 66 = .ok (.return_, 1) := by decide +kernel
set_option maxRecDepth 20000 in
theorem ggX6_meet_X6_layPoints : GoodIn wsX6_meet wsX6_layPoints := goodIn_r _ [13, 2, 3, 4, 14, 15, 16, 12, 17, 18, 41, 42, 43, 44, 45, 46, 47, 48, 49, 50, 51, 52, 53, 54, 55, 56, 57, 58, 59, 60, 61, 62, 63, 64, 65, 66, 67, 68, 69] (by decide +kernel) (by decide +kernel)
set_option maxRecDepth 20000 in
theorem gX6_meet_X6_layPoints : GoodIn wsX6_meet (wsV RX6 125 RX6 yX6_layPoints wsX6_layPoints) := goodIn_app (goodIn_of _ (by decide +kernel)) ggX6_meet_X6_layPoints
set_option maxRecDepth 20000 in
theorem ggX6_meet_X6_put : GoodIn wsX6_meet wsX6_put := goodIn_r _ [17, 18, 2, 41, 42, 43, 44, 45, 46, 47, 48, 49, 50, 51, 52, 53, 54, 55, 56, 57, 58, 59, 60, 61, 62, 63, 64, 65, 66, 67, 68, 69] (by decide +kernel) (by decide +kernel)
set_option maxRecDepth 20000 in
theorem gX6_meet_X6_put : GoodIn wsX6_meet (wsV RX6 122 RX6 yX6_put wsX6_put) := goodIn_app (goodIn_of _ (by decide +kernel)) ggX6_meet_X6_put
set_option maxRecDepth 20000 in
theorem ggX6_meet_X6_rank : GoodIn wsX6_meet wsX6_rank := goodIn_r _ [22, 23, 24, 2, 18, 25, 26, 27, 12, 28, 29, 30, 31, 32, 33, 34, 35, 36, 37, 38, 39, 40, 41, 42, 43, 44, 45, 46, 47, 48, 49, 50, 51, 52, 53, 54, 55, 56, 57, 58, 59, 60, 61, 62, 63, 64, 65, 66, 67, 68, 69] (by decide +kernel) (by decide +kernel)
set_option maxRecDepth 20000 in
theorem gX6_meet_X6_rank : GoodIn wsX6_meet (wsV RX6 129 RX6 yX6_rank wsX6_rank) := goodIn_app (goodIn_of _ (by decide +kernel)) ggX6_meet_X6_rank
theorem dX6_meet_0 : decode cX6_meet 0 = .ok (.aload_n 0, 1) := by decide +kernel
theorem dX6_meet_1 : decode cX6_meet 1 = .ok (.iload_n 1, 1) := by decide +kernel
theorem dX6_meet_2 : decode cX6_meet 2 = .ok (.invokevirtual 125, 3) := by decide +kernel
theorem dX6_meet_5 : decode cX6_meet 5 = .ok (.iconst 0, 1) := by decide +kernel
theorem dX6_meet_6 : decode cX6_meet 6 = .ok (.istore_n 3, 1) := by decide +kernel
theorem dX6_meet_7 : decode cX6_meet 7 = .ok (.iload_n 3, 1) := by decide +kernel
theorem dX6_meet_8 : decode cX6_meet 8 = .ok (.iconst 5, 1) := by decide +kernel
theorem dX6_meet_9 : decode cX6_meet 9 = .ok (.if_icmp .ge 20, 3) := by decide +kernel
theorem dX6_meet_12 : decode cX6_meet 12 = .ok (.aload_n 0, 1) := by decide +kernel
theorem dX6_meet_13 : decode cX6_meet 13 = .ok (.iload_n 3, 1) := by decide +kernel
theorem dX6_meet_14 : decode cX6_meet 14 = .ok (.aload_n 0, 1) := by decide +kernel
theorem dX6_meet_15 : decode cX6_meet 15 = .ok (.getfield 64, 3) := by decide +kernel
theorem dX6_meet_18 : decode cX6_meet 18 = .ok (.iload_n 3, 1) := by decide +kernel
theorem dX6_meet_19 : decode cX6_meet 19 = .ok (.iaload, 1) := by decide +kernel
theorem dX6_meet_20 : decode cX6_meet 20 = .ok (.invokevirtual 122, 3) := by decide +kernel
theorem dX6_meet_23 : decode cX6_meet 23 = .ok (.iinc 3 1, 3) := by decide +kernel
theorem dX6_meet_26 : decode cX6_meet 26 = .ok (.goto (-19), 3) := by decide +kernel
theorem dX6_meet_29 : decode cX6_meet 29 = .ok (.aload_n 0, 1) := by decide +kernel
theorem dX6_meet_30 : decode cX6_meet 30 = .ok (.dup, 1) := by decide +kernel
theorem dX6_meet_31 : decode cX6_meet 31 = .ok (.getfield 84, 3) := by decide +kernel
theorem dX6_meet_34 : decode cX6_meet 34 = .ok (.iconst 1, 1) := by decide +kernel
theorem dX6_meet_35 : decode cX6_meet 35 = .ok (.iadd, 1) := by decide +kernel
theorem dX6_meet_36 : decode cX6_meet 36 = .ok (.putfield 84, 3) := by decide +kernel
theorem dX6_meet_39 : decode cX6_meet 39 = .ok (.aload_n 0, 1) := by decide +kernel
theorem dX6_meet_40 : decode cX6_meet 40 = .ok (.invokevirtual 129, 3) := by decide +kernel
theorem dX6_meet_43 : decode cX6_meet 43 = .ok (.aload_n 0, 1) := by decide +kernel
theorem dX6_meet_44 : decode cX6_meet 44 = .ok (.getfield 84, 3) := by decide +kernel
theorem dX6_meet_47 : decode cX6_meet 47 = .ok (.if_icmp .ge 4, 3) := by decide +kernel
theorem dX6_meet_50 : decode cX6_meet 50 = .ok (.return_, 1) := by decide +kernel
theorem dX6_meet_51 : decode cX6_meet 51 = .ok (.aload_n 0, 1) := by decide +kernel
theorem dX6_meet_52 : decode cX6_meet 52 = .ok (.getfield 28, 3) := by decide +kernel
theorem dX6_meet_55 : decode cX6_meet 55 = .ok (.iload_n 1, 1) := by decide +kernel
theorem dX6_meet_56 : decode cX6_meet 56 = .ok (.iaload, 1) := by decide +kernel
theorem dX6_meet_57 : decode cX6_meet 57 = .ok (.istore_n 3, 1) := by decide +kernel
theorem dX6_meet_58 : decode cX6_meet 58 = .ok (.iconst 0, 1) := by decide +kernel
theorem dX6_meet_59 : decode cX6_meet 59 = .ok (.istore 4, 2) := by decide +kernel
theorem dX6_meet_61 : decode cX6_meet 61 = .ok (.iload 4, 2) := by decide +kernel
theorem dX6_meet_63 : decode cX6_meet 63 = .ok (.iconst 5, 1) := by decide +kernel
theorem dX6_meet_64 : decode cX6_meet 64 = .ok (.if_icmp .ge 32, 3) := by decide +kernel
theorem dX6_meet_67 : decode cX6_meet 67 = .ok (.aload_n 0, 1) := by decide +kernel
theorem dX6_meet_68 : decode cX6_meet 68 = .ok (.getfield 31, 3) := by decide +kernel
theorem dX6_meet_71 : decode cX6_meet 71 = .ok (.bipush 25, 2) := by decide +kernel
theorem dX6_meet_73 : decode cX6_meet 73 = .ok (.iload_n 1, 1) := by decide +kernel
theorem dX6_meet_74 : decode cX6_meet 74 = .ok (.imul, 1) := by decide +kernel
theorem dX6_meet_75 : decode cX6_meet 75 = .ok (.iconst 5, 1) := by decide +kernel
theorem dX6_meet_76 : decode cX6_meet 76 = .ok (.iload_n 3, 1) := by decide +kernel
theorem dX6_meet_77 : decode cX6_meet 77 = .ok (.imul, 1) := by decide +kernel
theorem dX6_meet_78 : decode cX6_meet 78 = .ok (.iadd, 1) := by decide +kernel
theorem dX6_meet_79 : decode cX6_meet 79 = .ok (.iload 4, 2) := by decide +kernel
theorem dX6_meet_81 : decode cX6_meet 81 = .ok (.iadd, 1) := by decide +kernel
theorem dX6_meet_82 : decode cX6_meet 82 = .ok (.aload_n 0, 1) := by decide +kernel
theorem dX6_meet_83 : decode cX6_meet 83 = .ok (.getfield 64, 3) := by decide +kernel
theorem dX6_meet_86 : decode cX6_meet 86 = .ok (.iload 4, 2) := by decide +kernel
theorem dX6_meet_88 : decode cX6_meet 88 = .ok (.iaload, 1) := by decide +kernel
theorem dX6_meet_89 : decode cX6_meet 89 = .ok (.iastore, 1) := by decide +kernel
theorem dX6_meet_90 : decode cX6_meet 90 = .ok (.iinc 4 1, 3) := by decide +kernel
theorem dX6_meet_93 : decode cX6_meet 93 = .ok (.goto (-32), 3) := by decide +kernel
theorem dX6_meet_96 : decode cX6_meet 96 = .ok (.aload_n 0, 1) := by decide +kernel
theorem dX6_meet_97 : decode cX6_meet 97 = .ok (.getfield 34, 3) := by decide +kernel
theorem dX6_meet_100 : decode cX6_meet 100 = .ok (.iconst 5, 1) := by decide +kernel
theorem dX6_meet_101 : decode cX6_meet 101 = .ok (.iload_n 1, 1) := by decide +kernel
theorem dX6_meet_102 : decode cX6_meet 102 = .ok (.imul, 1) := by decide +kernel
theorem dX6_meet_103 : decode cX6_meet 103 = .ok (.iload_n 3, 1) := by decide +kernel
theorem dX6_meet_104 : decode cX6_meet 104 = .ok (.iadd, 1) := by decide +kernel
theorem dX6_meet_105 : decode cX6_meet 105 = .ok (.iload_n 2, 1) := by decide +kernel
theorem dX6_meet_106 : decode cX6_meet 106 = .ok (.iastore, 1) := by decide +kernel
theorem dX6_meet_107 : decode cX6_meet 107 = .ok (.aload_n 0, 1) := by decide +kernel
theorem dX6_meet_108 : decode cX6_meet 108 = .ok (.getfield 37, 3) := by decide +kernel
theorem dX6_meet_111 : decode cX6_meet 111 = .ok (.aload_n 0, 1) := by decide +kernel
theorem dX6_meet_112 : decode cX6_meet 112 = .ok (.getfield 133, 3) := by decide +kernel
theorem dX6_meet_115 : decode cX6_meet 115 = .ok (.iload_n 1, 1) := by decide +kernel
theorem dX6_meet_116 : decode cX6_meet 116 = .ok (.iastore, 1) := by decide +kernel
theorem dX6_meet_117 : decode cX6_meet 117 = .ok (.aload_n 0, 1) := by decide +kernel
theorem dX6_meet_118 : decode cX6_meet 118 = .ok (.getfield 40, 3) := by decide +kernel
theorem dX6_meet_121 : decode cX6_meet 121 = .ok (.aload_n 0, 1) := by decide +kernel
theorem dX6_meet_122 : decode cX6_meet 122 = .ok (.getfield 133, 3) := by decide +kernel
theorem dX6_meet_125 : decode cX6_meet 125 = .ok (.iload_n 3, 1) := by decide +kernel
theorem dX6_meet_126 : decode cX6_meet 126 = .ok (.iastore, 1) := by decide +kernel
theorem dX6_meet_127 : decode cX6_meet 127 = .ok (.aload_n 0, 1) := by decide +kernel
theorem dX6_meet_128 : decode cX6_meet 128 = .ok (.dup, 1) := by decide +kernel
theorem dX6_meet_129 : decode cX6_meet 129 = .ok (.getfield 133, 3) := by decide +kernel
theorem dX6_meet_132 : decode cX6_meet 132 = .ok (.iconst 1, 1) := by decide +kernel
theorem dX6_meet_133 : decode cX6_meet 133 = .ok (.iadd, 1) := by decide +kernel
theorem dX6_meet_134 : decode cX6_meet 134 = .ok (.putfield 133, 3) := by decide +kernel
theorem dX6_meet_137 : decode cX6_meet 137 = .ok (.aload_n 0, 1) := by decide +kernel
theorem dX6_meet_138 : decode cX6_meet 138 = .ok (.getfield 28, 3) := by decide +kernel
theorem dX6_meet_141 : decode cX6_meet 141 = .ok (.iload_n 1, 1) := by decide +kernel
theorem dX6_meet_142 : decode cX6_meet 142 = .ok (.dup2, 1) := by decide +kernel
theorem dX6_meet_143 : decode cX6_meet 143 = .ok (.iaload, 1) := by decide +kernel
theorem dX6_meet_144 : decode cX6_meet 144 = .ok (.iconst 1, 1) := by decide +kernel
theorem dX6_meet_145 : decode cX6_meet 145 = .ok (.iadd, 1) := by decide +kernel
theorem dX6_meet_146 : decode cX6_meet 146 = .ok (.iastore, 1) := by decide +kernel
theorem dX6_meet_147 : decode cX6_meet 147 = .ok (.return_, 1) := by decide +kernel
set_option maxRecDepth 20000 in
theorem ggX6_pass_X6_change : GoodIn wsX6_pass wsX6_change := goodIn_r _ [9, 1, 2, 10, 11, 12, 13, 8, 14, 15, 16, 17, 18, 19, 57, 58, 59, 60, 61, 62, 63, 64, 65, 66, 67, 68, 69, 70, 71, 72, 73, 74, 75, 76, 77, 78, 79, 80, 81, 82, 83, 84, 85] (by decide +kernel) (by decide +kernel)
set_option maxRecDepth 20000 in
theorem gX6_pass_X6_change : GoodIn wsX6_pass (wsV RX6 136 RX6 yX6_change wsX6_change) := goodIn_app (goodIn_of _ (by decide +kernel)) ggX6_pass_X6_change
set_option maxRecDepth 20000 in
theorem ggX6_pass_X6_meet : GoodIn wsX6_pass wsX6_meet := goodIn_r _ [23, 2, 24, 25, 3, 26, 27, 28, 29, 30, 31, 32, 8, 33, 34, 35, 36, 37, 38, 39, 40, 41, 42, 43, 44, 45, 46, 47, 48, 49, 50, 51, 52, 16, 17, 18, 19, 53, 54, 55, 56, 57, 58, 59, 60, 61, 62, 63, 64, 65, 66, 67, 68, 69, 70, 71, 72, 73, 74, 75, 76, 77, 78, 79, 80, 81, 82, 83, 84, 85] (by decide +kernel) (by decide +kernel)
set_option maxRecDepth 20000 in
theorem gX6_pass_X6_meet : GoodIn wsX6_pass (wsV RX6 139 RX6 yX6_meet wsX6_meet) := goodIn_app (goodIn_of _ (by decide +kernel)) ggX6_pass_X6_meet
theorem dX6_pass_0 : decode cX6_pass 0 = .ok (.aload_n 0, 1) := by decide +kernel
theorem dX6_pass_1 : decode cX6_pass 1 = .ok (.getfield 19, 3) := by decide +kernel
theorem dX6_pass_4 : decode cX6_pass 4 = .ok (.iload_n 1, 1) := by decide +kernel
theorem dX6_pass_5 : decode cX6_pass 5 = .ok (.iaload, 1) := by decide +kernel
theorem dX6_pass_6 : decode cX6_pass 6 = .ok (.iconst 2, 1) := by decide +kernel
theorem dX6_pass_7 : decode cX6_pass 7 = .ok (.if_icmp .ne 7, 3) := by decide +kernel
theorem dX6_pass_10 : decode cX6_pass 10 = .ok (.iconst 2, 1) := by decide +kernel
theorem dX6_pass_11 : decode cX6_pass 11 = .ok (.goto 4, 3) := by decide +kernel
theorem dX6_pass_14 : decode cX6_pass 14 = .ok (.iconst 1, 1) := by decide +kernel
theorem dX6_pass_15 : decode cX6_pass 15 = .ok (.istore 4, 2) := by decide +kernel
theorem dX6_pass_17 : decode cX6_pass 17 = .ok (.iconst 0, 1) := by decide +kernel
theorem dX6_pass_18 : decode cX6_pass 18 = .ok (.istore 5, 2) := by decide +kernel
theorem dX6_pass_20 : decode cX6_pass 20 = .ok (.iload 5, 2) := by decide +kernel
theorem dX6_pass_22 : decode cX6_pass 22 = .ok (.iload 4, 2) := by decide +kernel
theorem dX6_pass_24 : decode cX6_pass 24 = .ok (.if_icmp .ge 83, 3) := by decide +kernel
theorem dX6_pass_27 : decode cX6_pass 27 = .ok (.iconst 0, 1) := by decide +kernel
theorem dX6_pass_28 : decode cX6_pass 28 = .ok (.istore 6, 2) := by decide +kernel
theorem dX6_pass_30 : decode cX6_pass 30 = .ok (.iload 6, 2) := by decide +kernel
theorem dX6_pass_32 : decode cX6_pass 32 = .ok (.iconst 5, 1) := by decide +kernel
theorem dX6_pass_33 : decode cX6_pass 33 = .ok (.if_icmp .ge 32, 3) := by decide +kernel
theorem dX6_pass_36 : decode cX6_pass 36 = .ok (.aload_n 0, 1) := by decide +kernel
theorem dX6_pass_37 : decode cX6_pass 37 = .ok (.getfield 64, 3) := by decide +kernel
theorem dX6_pass_40 : decode cX6_pass 40 = .ok (.iload 6, 2) := by decide +kernel
theorem dX6_pass_42 : decode cX6_pass 42 = .ok (.aload_n 0, 1) := by decide +kernel
theorem dX6_pass_43 : decode cX6_pass 43 = .ok (.getfield 31, 3) := by decide +kernel
theorem dX6_pass_46 : decode cX6_pass 46 = .ok (.bipush 25, 2) := by decide +kernel
theorem dX6_pass_48 : decode cX6_pass 48 = .ok (.iload_n 2, 1) := by decide +kernel
theorem dX6_pass_49 : decode cX6_pass 49 = .ok (.imul, 1) := by decide +kernel
theorem dX6_pass_50 : decode cX6_pass 50 = .ok (.iconst 5, 1) := by decide +kernel
theorem dX6_pass_51 : decode cX6_pass 51 = .ok (.iload_n 3, 1) := by decide +kernel
theorem dX6_pass_52 : decode cX6_pass 52 = .ok (.imul, 1) := by decide +kernel
theorem dX6_pass_53 : decode cX6_pass 53 = .ok (.iadd, 1) := by decide +kernel
theorem dX6_pass_54 : decode cX6_pass 54 = .ok (.iload 6, 2) := by decide +kernel
theorem dX6_pass_56 : decode cX6_pass 56 = .ok (.iadd, 1) := by decide +kernel
theorem dX6_pass_57 : decode cX6_pass 57 = .ok (.iaload, 1) := by decide +kernel
theorem dX6_pass_58 : decode cX6_pass 58 = .ok (.iastore, 1) := by decide +kernel
theorem dX6_pass_59 : decode cX6_pass 59 = .ok (.iinc 6 1, 3) := by decide +kernel
theorem dX6_pass_62 : decode cX6_pass 62 = .ok (.goto (-32), 3) := by decide +kernel
theorem dX6_pass_65 : decode cX6_pass 65 = .ok (.aload_n 0, 1) := by decide +kernel
theorem dX6_pass_66 : decode cX6_pass 66 = .ok (.iload_n 1, 1) := by decide +kernel
theorem dX6_pass_67 : decode cX6_pass 67 = .ok (.iload 5, 2) := by decide +kernel
theorem dX6_pass_69 : decode cX6_pass 69 = .ok (.invokevirtual 136, 3) := by decide +kernel
theorem dX6_pass_72 : decode cX6_pass 72 = .ok (.aload_n 0, 1) := by decide +kernel
theorem dX6_pass_73 : decode cX6_pass 73 = .ok (.aload_n 0, 1) := by decide +kernel
theorem dX6_pass_74 : decode cX6_pass 74 = .ok (.getfield 16, 3) := by decide +kernel
theorem dX6_pass_77 : decode cX6_pass 77 = .ok (.iload_n 1, 1) := by decide +kernel
theorem dX6_pass_78 : decode cX6_pass 78 = .ok (.iaload, 1) := by decide +kernel
theorem dX6_pass_79 : decode cX6_pass 79 = .ok (.sipush 10000, 3) := by decide +kernel
theorem dX6_pass_82 : decode cX6_pass 82 = .ok (.iload_n 1, 1) := by decide +kernel
theorem dX6_pass_83 : decode cX6_pass 83 = .ok (.imul, 1) := by decide +kernel
theorem dX6_pass_84 : decode cX6_pass 84 = .ok (.sipush 1000, 3) := by decide +kernel
theorem dX6_pass_87 : decode cX6_pass 87 = .ok (.iload_n 2, 1) := by decide +kernel
theorem dX6_pass_88 : decode cX6_pass 88 = .ok (.imul, 1) := by decide +kernel
theorem dX6_pass_89 : decode cX6_pass 89 = .ok (.iadd, 1) := by decide +kernel
theorem dX6_pass_90 : decode cX6_pass 90 = .ok (.bipush 10, 2) := by decide +kernel
theorem dX6_pass_92 : decode cX6_pass 92 = .ok (.iload_n 3, 1) := by decide +kernel
theorem dX6_pass_93 : decode cX6_pass 93 = .ok (.imul, 1) := by decide +kernel
theorem dX6_pass_94 : decode cX6_pass 94 = .ok (.iadd, 1) := by decide +kernel
theorem dX6_pass_95 : decode cX6_pass 95 = .ok (.iload 5, 2) := by decide +kernel
theorem dX6_pass_97 : decode cX6_pass 97 = .ok (.iadd, 1) := by decide +kernel
theorem dX6_pass_98 : decode cX6_pass 98 = .ok (.invokevirtual 139, 3) := by decide +kernel
theorem dX6_pass_101 : decode cX6_pass 101 = .ok (.iinc 5 1, 3) := by decide +kernel
theorem dX6_pass_104 : decode cX6_pass 104 = .ok (.goto (-84), 3) := by decide +kernel
theorem dX6_pass_107 : decode cX6_pass 107 = .ok (.return_, 1) := by decide +kernel
set_option maxRecDepth 20000 in
theorem ggX6_readEquations_X6_layPoints : GoodIn wsX6_readEquations wsX6_layPoints := goodIn_r _ [10, 11, 12, 13, 14, 15, 16, 9, 17, 5, 38, 39, 40, 41, 42, 43, 44, 45, 46, 47, 48, 49, 50, 51, 52, 53, 54, 55, 56, 57, 58, 59, 60, 61, 62, 63, 64, 65, 66] (by decide +kernel) (by decide +kernel)
set_option maxRecDepth 20000 in
theorem gX6_readEquations_X6_layPoints : GoodIn wsX6_readEquations (wsV RX6 125 RX6 yX6_layPoints wsX6_layPoints) := goodIn_app (goodIn_of _ (by decide +kernel)) ggX6_readEquations_X6_layPoints
set_option maxRecDepth 20000 in
theorem ggX6_readEquations_X6_rank : GoodIn wsX6_readEquations wsX6_rank := goodIn_r _ [21, 2, 3, 11, 5, 22, 23, 24, 9, 25, 26, 27, 28, 29, 30, 31, 32, 33, 34, 35, 36, 37, 38, 39, 40, 41, 42, 43, 44, 45, 46, 47, 48, 49, 50, 51, 52, 53, 54, 55, 56, 57, 58, 59, 60, 61, 62, 63, 64, 65, 66] (by decide +kernel) (by decide +kernel)
set_option maxRecDepth 20000 in
theorem gX6_readEquations_X6_rank : GoodIn wsX6_readEquations (wsV RX6 129 RX6 yX6_rank wsX6_rank) := goodIn_app (goodIn_of _ (by decide +kernel)) ggX6_readEquations_X6_rank
set_option maxRecDepth 20000 in
theorem ggX6_readEquations_X6_mod : GoodIn wsX6_readEquations wsX6_mod := goodIn_r _ [32, 33] (by decide +kernel) (by decide +kernel)
set_option maxRecDepth 20000 in
theorem gX6_readEquations_X6_mod : GoodIn wsX6_readEquations (va_wsS RX6 80 yX6_mod wsX6_mod) := goodIn_app (goodIn_of _ (by decide +kernel)) ggX6_readEquations_X6_mod
theorem dX6_readEquations_0 : decode cX6_readEquations 0 = .ok (.aload_n 0, 1) := by decide +kernel
theorem dX6_readEquations_1 : decode cX6_readEquations 1 = .ok (.iload_n 1, 1) := by decide +kernel
theorem dX6_readEquations_2 : decode cX6_readEquations 2 = .ok (.invokevirtual 125, 3) := by decide +kernel
theorem dX6_readEquations_5 : decode cX6_readEquations 5 = .ok (.aload_n 0, 1) := by decide +kernel
theorem dX6_readEquations_6 : decode cX6_readEquations 6 = .ok (.invokevirtual 129, 3) := by decide +kernel
theorem dX6_readEquations_9 : decode cX6_readEquations 9 = .ok (.pop, 1) := by decide +kernel
theorem dX6_readEquations_10 : decode cX6_readEquations 10 = .ok (.aload_n 0, 1) := by decide +kernel
theorem dX6_readEquations_11 : decode cX6_readEquations 11 = .ok (.getfield 43, 3) := by decide +kernel
theorem dX6_readEquations_14 : decode cX6_readEquations 14 = .ok (.iload_n 1, 1) := by decide +kernel
theorem dX6_readEquations_15 : decode cX6_readEquations 15 = .ok (.iconst 0, 1) := by decide +kernel
theorem dX6_readEquations_16 : decode cX6_readEquations 16 = .ok (.iastore, 1) := by decide +kernel
theorem dX6_readEquations_17 : decode cX6_readEquations 17 = .ok (.iconst 1, 1) := by decide +kernel
theorem dX6_readEquations_18 : decode cX6_readEquations 18 = .ok (.istore_n 2, 1) := by decide +kernel
theorem dX6_readEquations_19 : decode cX6_readEquations 19 = .ok (.iload_n 2, 1) := by decide +kernel
theorem dX6_readEquations_20 : decode cX6_readEquations 20 = .ok (.aload_n 0, 1) := by decide +kernel
theorem dX6_readEquations_21 : decode cX6_readEquations 21 = .ok (.getfield 71, 3) := by decide +kernel
theorem dX6_readEquations_24 : decode cX6_readEquations 24 = .ok (.iconst 1, 1) := by decide +kernel
theorem dX6_readEquations_25 : decode cX6_readEquations 25 = .ok (.iadd, 1) := by decide +kernel
theorem dX6_readEquations_26 : decode cX6_readEquations 26 = .ok (.if_icmp .gt 136, 3) := by decide +kernel
theorem dX6_readEquations_29 : decode cX6_readEquations 29 = .ok (.iload_n 2, 1) := by decide +kernel
theorem dX6_readEquations_30 : decode cX6_readEquations 30 = .ok (.aload_n 0, 1) := by decide +kernel
theorem dX6_readEquations_31 : decode cX6_readEquations 31 = .ok (.getfield 71, 3) := by decide +kernel
theorem dX6_readEquations_34 : decode cX6_readEquations 34 = .ok (.if_icmp .le 7, 3) := by decide +kernel
theorem dX6_readEquations_37 : decode cX6_readEquations 37 = .ok (.iconst 0, 1) := by decide +kernel
theorem dX6_readEquations_38 : decode cX6_readEquations 38 = .ok (.goto 4, 3) := by decide +kernel
theorem dX6_readEquations_41 : decode cX6_readEquations 41 = .ok (.iload_n 2, 1) := by decide +kernel
theorem dX6_readEquations_42 : decode cX6_readEquations 42 = .ok (.istore_n 3, 1) := by decide +kernel
theorem dX6_readEquations_43 : decode cX6_readEquations 43 = .ok (.aload_n 0, 1) := by decide +kernel
theorem dX6_readEquations_44 : decode cX6_readEquations 44 = .ok (.getfield 61, 3) := by decide +kernel
theorem dX6_readEquations_47 : decode cX6_readEquations 47 = .ok (.iload_n 3, 1) := by decide +kernel
theorem dX6_readEquations_48 : decode cX6_readEquations 48 = .ok (.iaload, 1) := by decide +kernel
theorem dX6_readEquations_49 : decode cX6_readEquations 49 = .ok (.ifCond .ge 107, 3) := by decide +kernel
theorem dX6_readEquations_52 : decode cX6_readEquations 52 = .ok (.bipush 25, 2) := by decide +kernel
theorem dX6_readEquations_54 : decode cX6_readEquations 54 = .ok (.iload_n 1, 1) := by decide +kernel
theorem dX6_readEquations_55 : decode cX6_readEquations 55 = .ok (.imul, 1) := by decide +kernel
theorem dX6_readEquations_56 : decode cX6_readEquations 56 = .ok (.iconst 5, 1) := by decide +kernel
theorem dX6_readEquations_57 : decode cX6_readEquations 57 = .ok (.aload_n 0, 1) := by decide +kernel
theorem dX6_readEquations_58 : decode cX6_readEquations 58 = .ok (.getfield 43, 3) := by decide +kernel
theorem dX6_readEquations_61 : decode cX6_readEquations 61 = .ok (.iload_n 1, 1) := by decide +kernel
theorem dX6_readEquations_62 : decode cX6_readEquations 62 = .ok (.iaload, 1) := by decide +kernel
theorem dX6_readEquations_63 : decode cX6_readEquations 63 = .ok (.imul, 1) := by decide +kernel
theorem dX6_readEquations_64 : decode cX6_readEquations 64 = .ok (.iadd, 1) := by decide +kernel
theorem dX6_readEquations_65 : decode cX6_readEquations 65 = .ok (.istore 4, 2) := by decide +kernel
theorem dX6_readEquations_67 : decode cX6_readEquations 67 = .ok (.iconst 0, 1) := by decide +kernel
theorem dX6_readEquations_68 : decode cX6_readEquations 68 = .ok (.istore 5, 2) := by decide +kernel
theorem dX6_readEquations_70 : decode cX6_readEquations 70 = .ok (.iload 5, 2) := by decide +kernel
theorem dX6_readEquations_72 : decode cX6_readEquations 72 = .ok (.iconst 5, 1) := by decide +kernel
theorem dX6_readEquations_73 : decode cX6_readEquations 73 = .ok (.if_icmp .ge 73, 3) := by decide +kernel
theorem dX6_readEquations_76 : decode cX6_readEquations 76 = .ok (.aload_n 0, 1) := by decide +kernel
theorem dX6_readEquations_77 : decode cX6_readEquations 77 = .ok (.getfield 46, 3) := by decide +kernel
theorem dX6_readEquations_80 : decode cX6_readEquations 80 = .ok (.iload 4, 2) := by decide +kernel
theorem dX6_readEquations_82 : decode cX6_readEquations 82 = .ok (.iload 5, 2) := by decide +kernel
theorem dX6_readEquations_84 : decode cX6_readEquations 84 = .ok (.iadd, 1) := by decide +kernel
theorem dX6_readEquations_85 : decode cX6_readEquations 85 = .ok (.iload 5, 2) := by decide +kernel
theorem dX6_readEquations_87 : decode cX6_readEquations 87 = .ok (.iload_n 3, 1) := by decide +kernel
theorem dX6_readEquations_88 : decode cX6_readEquations 88 = .ok (.if_icmp .ne 7, 3) := by decide +kernel
theorem dX6_readEquations_91 : decode cX6_readEquations 91 = .ok (.iconst 1, 1) := by decide +kernel
theorem dX6_readEquations_92 : decode cX6_readEquations 92 = .ok (.goto 47, 3) := by decide +kernel
theorem dX6_readEquations_95 : decode cX6_readEquations 95 = .ok (.iload 5, 2) := by decide +kernel
theorem dX6_readEquations_97 : decode cX6_readEquations 97 = .ok (.aload_n 0, 1) := by decide +kernel
theorem dX6_readEquations_98 : decode cX6_readEquations 98 = .ok (.getfield 71, 3) := by decide +kernel
theorem dX6_readEquations_101 : decode cX6_readEquations 101 = .ok (.if_icmp .gt 37, 3) := by decide +kernel
theorem dX6_readEquations_104 : decode cX6_readEquations 104 = .ok (.aload_n 0, 1) := by decide +kernel
theorem dX6_readEquations_105 : decode cX6_readEquations 105 = .ok (.getfield 61, 3) := by decide +kernel
theorem dX6_readEquations_108 : decode cX6_readEquations 108 = .ok (.iload 5, 2) := by decide +kernel
theorem dX6_readEquations_110 : decode cX6_readEquations 110 = .ok (.iaload, 1) := by decide +kernel
theorem dX6_readEquations_111 : decode cX6_readEquations 111 = .ok (.ifCond .lt 27, 3) := by decide +kernel
theorem dX6_readEquations_114 : decode cX6_readEquations 114 = .ok (.aload_n 0, 1) := by decide +kernel
theorem dX6_readEquations_115 : decode cX6_readEquations 115 = .ok (.getfield 58, 3) := by decide +kernel
theorem dX6_readEquations_118 : decode cX6_readEquations 118 = .ok (.iconst 5, 1) := by decide +kernel
theorem dX6_readEquations_119 : decode cX6_readEquations 119 = .ok (.aload_n 0, 1) := by decide +kernel
theorem dX6_readEquations_120 : decode cX6_readEquations 120 = .ok (.getfield 61, 3) := by decide +kernel
theorem dX6_readEquations_123 : decode cX6_readEquations 123 = .ok (.iload 5, 2) := by decide +kernel
theorem dX6_readEquations_125 : decode cX6_readEquations 125 = .ok (.iaload, 1) := by decide +kernel
theorem dX6_readEquations_126 : decode cX6_readEquations 126 = .ok (.imul, 1) := by decide +kernel
theorem dX6_readEquations_127 : decode cX6_readEquations 127 = .ok (.iload_n 3, 1) := by decide +kernel
theorem dX6_readEquations_128 : decode cX6_readEquations 128 = .ok (.iadd, 1) := by decide +kernel
theorem dX6_readEquations_129 : decode cX6_readEquations 129 = .ok (.iaload, 1) := by decide +kernel
theorem dX6_readEquations_130 : decode cX6_readEquations 130 = .ok (.ineg, 1) := by decide +kernel
theorem dX6_readEquations_131 : decode cX6_readEquations 131 = .ok (.i2l, 1) := by decide +kernel
theorem dX6_readEquations_132 : decode cX6_readEquations 132 = .ok (.invokestatic 80, 3) := by decide +kernel
