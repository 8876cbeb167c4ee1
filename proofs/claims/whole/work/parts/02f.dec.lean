theorem dX6_noteAll_124 : decode cX6_noteAll 124 = .ok (.imul, 1) := by decide +kernel
theorem dX6_noteAll_125 : decode cX6_noteAll 125 = .ok (.iload 4, 2) := by decide +kernel
theorem dX6_noteAll_127 : decode cX6_noteAll 127 = .ok (.iadd, 1) := by decide +kernel
theorem dX6_noteAll_128 : decode cX6_noteAll 128 = .ok (.aload_n 0, 1) := by decide +kernel
theorem dX6_noteAll_129 : decode cX6_noteAll 129 = .ok (.getfield 46, 3) := by decide +kernel
theorem dX6_noteAll_132 : decode cX6_noteAll 132 = .ok (.bipush 25, 2) := by decide +kernel
theorem dX6_noteAll_134 : decode cX6_noteAll 134 = .ok (.iload_n 2, 1) := by decide +kernel
theorem dX6_noteAll_135 : decode cX6_noteAll 135 = .ok (.imul, 1) := by decide +kernel
theorem dX6_noteAll_136 : decode cX6_noteAll 136 = .ok (.iconst 5, 1) := by decide +kernel
theorem dX6_noteAll_137 : decode cX6_noteAll 137 = .ok (.iload_n 3, 1) := by decide +kernel
theorem dX6_noteAll_138 : decode cX6_noteAll 138 = .ok (.imul, 1) := by decide +kernel
theorem dX6_noteAll_139 : decode cX6_noteAll 139 = .ok (.iadd, 1) := by decide +kernel
theorem dX6_noteAll_140 : decode cX6_noteAll 140 = .ok (.iload 4, 2) := by decide +kernel
theorem dX6_noteAll_142 : decode cX6_noteAll 142 = .ok (.iadd, 1) := by decide +kernel
theorem dX6_noteAll_143 : decode cX6_noteAll 143 = .ok (.iaload, 1) := by decide +kernel
theorem dX6_noteAll_144 : decode cX6_noteAll 144 = .ok (.iastore, 1) := by decide +kernel
theorem dX6_noteAll_145 : decode cX6_noteAll 145 = .ok (.iinc 4 1, 3) := by decide +kernel
theorem dX6_noteAll_148 : decode cX6_noteAll 148 = .ok (.goto (-39), 3) := by decide +kernel
theorem dX6_noteAll_151 : decode cX6_noteAll 151 = .ok (.aload_n 0, 1) := by decide +kernel
theorem dX6_noteAll_152 : decode cX6_noteAll 152 = .ok (.dup, 1) := by decide +kernel
theorem dX6_noteAll_153 : decode cX6_noteAll 153 = .ok (.getfield 151, 3) := by decide +kernel
theorem dX6_noteAll_156 : decode cX6_noteAll 156 = .ok (.iconst 1, 1) := by decide +kernel
theorem dX6_noteAll_157 : decode cX6_noteAll 157 = .ok (.iadd, 1) := by decide +kernel
theorem dX6_noteAll_158 : decode cX6_noteAll 158 = .ok (.putfield 151, 3) := by decide +kernel
theorem dX6_noteAll_161 : decode cX6_noteAll 161 = .ok (.iinc 3 1, 3) := by decide +kernel
theorem dX6_noteAll_164 : decode cX6_noteAll 164 = .ok (.goto (-78), 3) := by decide +kernel
theorem dX6_noteAll_167 : decode cX6_noteAll 167 = .ok (.iinc 2 1, 3) := by decide +kernel
theorem dX6_noteAll_170 : decode cX6_noteAll 170 = .ok (.goto (-94), 3) := by decide +kernel
theorem dX6_noteAll_173 : decode cX6_noteAll 173 = .ok (.aload_n 0, 1) := by decide +kernel
theorem dX6_noteAll_174 : decode cX6_noteAll 174 = .ok (.getfield 151, 3) := by decide +kernel
theorem dX6_noteAll_177 : decode cX6_noteAll 177 = .ok (.ireturn, 1) := by decide +kernel
theorem dX6_forget_0 : decode cX6_forget 0 = .ok (.aload_n 0, 1) := by decide +kernel
theorem dX6_forget_1 : decode cX6_forget 1 = .ok (.iconst 0, 1) := by decide +kernel
theorem dX6_forget_2 : decode cX6_forget 2 = .ok (.putfield 74, 3) := by decide +kernel
theorem dX6_forget_5 : decode cX6_forget 5 = .ok (.aload_n 0, 1) := by decide +kernel
theorem dX6_forget_6 : decode cX6_forget 6 = .ok (.getfield 151, 3) := by decide +kernel
theorem dX6_forget_9 : decode cX6_forget 9 = .ok (.istore_n 1, 1) := by decide +kernel
theorem dX6_forget_10 : decode cX6_forget 10 = .ok (.aload_n 0, 1) := by decide +kernel
theorem dX6_forget_11 : decode cX6_forget 11 = .ok (.iconst 0, 1) := by decide +kernel
theorem dX6_forget_12 : decode cX6_forget 12 = .ok (.putfield 151, 3) := by decide +kernel
theorem dX6_forget_15 : decode cX6_forget 15 = .ok (.iload_n 1, 1) := by decide +kernel
theorem dX6_forget_16 : decode cX6_forget 16 = .ok (.ireturn, 1) := by decide +kernel
set_option maxRecDepth 20000 in
theorem ggX6_layNotes_X6_put : GoodIn wsX6_layNotes wsX6_put := goodIn_r _ [12, 13, 1, 14, 15, 16, 17, 18, 19, 20, 21, 22, 23, 24, 25, 26, 27, 28, 29, 30, 31, 32, 33, 34, 35, 36, 37, 38, 39, 40, 41, 42] (by decide +kernel) (by decide +kernel)
set_option maxRecDepth 20000 in
theorem gX6_layNotes_X6_put : GoodIn wsX6_layNotes (wsV RX6 122 RX6 yX6_put wsX6_put) := goodIn_app (goodIn_of _ (by decide +kernel)) ggX6_layNotes_X6_put
theorem dX6_layNotes_0 : decode cX6_layNotes 0 = .ok (.aload_n 0, 1) := by decide +kernel
theorem dX6_layNotes_1 : decode cX6_layNotes 1 = .ok (.iconst 0, 1) := by decide +kernel
theorem dX6_layNotes_2 : decode cX6_layNotes 2 = .ok (.putfield 84, 3) := by decide +kernel
theorem dX6_layNotes_5 : decode cX6_layNotes 5 = .ok (.iconst 0, 1) := by decide +kernel
theorem dX6_layNotes_6 : decode cX6_layNotes 6 = .ok (.istore_n 2, 1) := by decide +kernel
theorem dX6_layNotes_7 : decode cX6_layNotes 7 = .ok (.iload_n 2, 1) := by decide +kernel
theorem dX6_layNotes_8 : decode cX6_layNotes 8 = .ok (.aload_n 0, 1) := by decide +kernel
theorem dX6_layNotes_9 : decode cX6_layNotes 9 = .ok (.getfield 151, 3) := by decide +kernel
theorem dX6_layNotes_12 : decode cX6_layNotes 12 = .ok (.if_icmp .ge 62, 3) := by decide +kernel
theorem dX6_layNotes_15 : decode cX6_layNotes 15 = .ok (.aload_n 0, 1) := by decide +kernel
theorem dX6_layNotes_16 : decode cX6_layNotes 16 = .ok (.getfield 52, 3) := by decide +kernel
theorem dX6_layNotes_19 : decode cX6_layNotes 19 = .ok (.iload_n 2, 1) := by decide +kernel
theorem dX6_layNotes_20 : decode cX6_layNotes 20 = .ok (.iaload, 1) := by decide +kernel
theorem dX6_layNotes_21 : decode cX6_layNotes 21 = .ok (.aload_n 0, 1) := by decide +kernel
theorem dX6_layNotes_22 : decode cX6_layNotes 22 = .ok (.getfield 13, 3) := by decide +kernel
theorem dX6_layNotes_25 : decode cX6_layNotes 25 = .ok (.iload_n 1, 1) := by decide +kernel
theorem dX6_layNotes_26 : decode cX6_layNotes 26 = .ok (.iaload, 1) := by decide +kernel
theorem dX6_layNotes_27 : decode cX6_layNotes 27 = .ok (.if_icmp .ne 41, 3) := by decide +kernel
theorem dX6_layNotes_30 : decode cX6_layNotes 30 = .ok (.iconst 0, 1) := by decide +kernel
theorem dX6_layNotes_31 : decode cX6_layNotes 31 = .ok (.istore_n 3, 1) := by decide +kernel
theorem dX6_layNotes_32 : decode cX6_layNotes 32 = .ok (.iload_n 3, 1) := by decide +kernel
theorem dX6_layNotes_33 : decode cX6_layNotes 33 = .ok (.iconst 5, 1) := by decide +kernel
theorem dX6_layNotes_34 : decode cX6_layNotes 34 = .ok (.if_icmp .ge 24, 3) := by decide +kernel
theorem dX6_layNotes_37 : decode cX6_layNotes 37 = .ok (.aload_n 0, 1) := by decide +kernel
theorem dX6_layNotes_38 : decode cX6_layNotes 38 = .ok (.iload_n 3, 1) := by decide +kernel
theorem dX6_layNotes_39 : decode cX6_layNotes 39 = .ok (.aload_n 0, 1) := by decide +kernel
theorem dX6_layNotes_40 : decode cX6_layNotes 40 = .ok (.getfield 55, 3) := by decide +kernel
theorem dX6_layNotes_43 : decode cX6_layNotes 43 = .ok (.iconst 5, 1) := by decide +kernel
theorem dX6_layNotes_44 : decode cX6_layNotes 44 = .ok (.iload_n 2, 1) := by decide +kernel
theorem dX6_layNotes_45 : decode cX6_layNotes 45 = .ok (.imul, 1) := by decide +kernel
theorem dX6_layNotes_46 : decode cX6_layNotes 46 = .ok (.iload_n 3, 1) := by decide +kernel
theorem dX6_layNotes_47 : decode cX6_layNotes 47 = .ok (.iadd, 1) := by decide +kernel
theorem dX6_layNotes_48 : decode cX6_layNotes 48 = .ok (.iaload, 1) := by decide +kernel
theorem dX6_layNotes_49 : decode cX6_layNotes 49 = .ok (.invokevirtual 122, 3) := by decide +kernel
theorem dX6_layNotes_52 : decode cX6_layNotes 52 = .ok (.iinc 3 1, 3) := by decide +kernel
theorem dX6_layNotes_55 : decode cX6_layNotes 55 = .ok (.goto (-23), 3) := by decide +kernel
theorem dX6_layNotes_58 : decode cX6_layNotes 58 = .ok (.aload_n 0, 1) := by decide +kernel
theorem dX6_layNotes_59 : decode cX6_layNotes 59 = .ok (.dup, 1) := by decide +kernel
theorem dX6_layNotes_60 : decode cX6_layNotes 60 = .ok (.getfield 84, 3) := by decide +kernel
theorem dX6_layNotes_63 : decode cX6_layNotes 63 = .ok (.iconst 1, 1) := by decide +kernel
theorem dX6_layNotes_64 : decode cX6_layNotes 64 = .ok (.iadd, 1) := by decide +kernel
theorem dX6_layNotes_65 : decode cX6_layNotes 65 = .ok (.putfield 84, 3) := by decide +kernel
theorem dX6_layNotes_68 : decode cX6_layNotes 68 = .ok (.iinc 2 1, 3) := by decide +kernel
theorem dX6_layNotes_71 : decode cX6_layNotes 71 = .ok (.goto (-64), 3) := by decide +kernel
theorem dX6_layNotes_74 : decode cX6_layNotes 74 = .ok (.aload_n 0, 1) := by decide +kernel
theorem dX6_layNotes_75 : decode cX6_layNotes 75 = .ok (.getfield 19, 3) := by decide +kernel
theorem dX6_layNotes_78 : decode cX6_layNotes 78 = .ok (.iload_n 1, 1) := by decide +kernel
theorem dX6_layNotes_79 : decode cX6_layNotes 79 = .ok (.iaload, 1) := by decide +kernel
theorem dX6_layNotes_80 : decode cX6_layNotes 80 = .ok (.iconst 3, 1) := by decide +kernel
theorem dX6_layNotes_81 : decode cX6_layNotes 81 = .ok (.if_icmp .ne 41, 3) := by decide +kernel
theorem dX6_layNotes_84 : decode cX6_layNotes 84 = .ok (.iconst 0, 1) := by decide +kernel
theorem dX6_layNotes_85 : decode cX6_layNotes 85 = .ok (.istore_n 2, 1) := by decide +kernel
theorem dX6_layNotes_86 : decode cX6_layNotes 86 = .ok (.iload_n 2, 1) := by decide +kernel
theorem dX6_layNotes_87 : decode cX6_layNotes 87 = .ok (.iconst 5, 1) := by decide +kernel
theorem dX6_layNotes_88 : decode cX6_layNotes 88 = .ok (.if_icmp .ge 24, 3) := by decide +kernel
theorem dX6_layNotes_91 : decode cX6_layNotes 91 = .ok (.aload_n 0, 1) := by decide +kernel
theorem dX6_layNotes_92 : decode cX6_layNotes 92 = .ok (.iload_n 2, 1) := by decide +kernel
theorem dX6_layNotes_93 : decode cX6_layNotes 93 = .ok (.aload_n 0, 1) := by decide +kernel
theorem dX6_layNotes_94 : decode cX6_layNotes 94 = .ok (.getfield 25, 3) := by decide +kernel
theorem dX6_layNotes_97 : decode cX6_layNotes 97 = .ok (.iconst 5, 1) := by decide +kernel
theorem dX6_layNotes_98 : decode cX6_layNotes 98 = .ok (.iload_n 1, 1) := by decide +kernel
theorem dX6_layNotes_99 : decode cX6_layNotes 99 = .ok (.imul, 1) := by decide +kernel
theorem dX6_layNotes_100 : decode cX6_layNotes 100 = .ok (.iload_n 2, 1) := by decide +kernel
theorem dX6_layNotes_101 : decode cX6_layNotes 101 = .ok (.iadd, 1) := by decide +kernel
theorem dX6_layNotes_102 : decode cX6_layNotes 102 = .ok (.iaload, 1) := by decide +kernel
theorem dX6_layNotes_103 : decode cX6_layNotes 103 = .ok (.invokevirtual 122, 3) := by decide +kernel
theorem dX6_layNotes_106 : decode cX6_layNotes 106 = .ok (.iinc 2 1, 3) := by decide +kernel
theorem dX6_layNotes_109 : decode cX6_layNotes 109 = .ok (.goto (-23), 3) := by decide +kernel
theorem dX6_layNotes_112 : decode cX6_layNotes 112 = .ok (.aload_n 0, 1) := by decide +kernel
theorem dX6_layNotes_113 : decode cX6_layNotes 113 = .ok (.dup, 1) := by decide +kernel
theorem dX6_layNotes_114 : decode cX6_layNotes 114 = .ok (.getfield 84, 3) := by decide +kernel
theorem dX6_layNotes_117 : decode cX6_layNotes 117 = .ok (.iconst 1, 1) := by decide +kernel
theorem dX6_layNotes_118 : decode cX6_layNotes 118 = .ok (.iadd, 1) := by decide +kernel
theorem dX6_layNotes_119 : decode cX6_layNotes 119 = .ok (.putfield 84, 3) := by decide +kernel
theorem dX6_layNotes_122 : decode cX6_layNotes 122 = .ok (.return_, 1) := by decide +kernel
set_option maxRecDepth 20000 in
theorem ggX6_layBefore_X6_put : GoodIn wsX6_layBefore wsX6_put := goodIn_r _ [11, 5, 6, 16, 17, 18, 19, 20, 21, 22, 23, 24, 25, 26, 27, 28, 29, 30, 31, 32, 33, 34, 35, 36, 37, 38, 39, 40, 41, 42, 43, 44] (by decide +kernel) (by decide +kernel)
set_option maxRecDepth 20000 in
theorem gX6_layBefore_X6_put : GoodIn wsX6_layBefore (wsV RX6 122 RX6 yX6_put wsX6_put) := goodIn_app (goodIn_of _ (by decide +kernel)) ggX6_layBefore_X6_put
set_option maxRecDepth 20000 in
theorem ggX6_layBefore_X6_mod : GoodIn wsX6_layBefore wsX6_mod := goodIn_r _ [14, 15] (by decide +kernel) (by decide +kernel)
set_option maxRecDepth 20000 in
theorem gX6_layBefore_X6_mod : GoodIn wsX6_layBefore (va_wsS RX6 80 yX6_mod wsX6_mod) := goodIn_app (goodIn_of _ (by decide +kernel)) ggX6_layBefore_X6_mod
theorem dX6_layBefore_0 : decode cX6_layBefore 0 = .ok (.aload_n 0, 1) := by decide +kernel
theorem dX6_layBefore_1 : decode cX6_layBefore 1 = .ok (.getfield 22, 3) := by decide +kernel
theorem dX6_layBefore_4 : decode cX6_layBefore 4 = .ok (.iload_n 1, 1) := by decide +kernel
theorem dX6_layBefore_5 : decode cX6_layBefore 5 = .ok (.iaload, 1) := by decide +kernel
theorem dX6_layBefore_6 : decode cX6_layBefore 6 = .ok (.istore 4, 2) := by decide +kernel
theorem dX6_layBefore_8 : decode cX6_layBefore 8 = .ok (.iconst 0, 1) := by decide +kernel
theorem dX6_layBefore_9 : decode cX6_layBefore 9 = .ok (.istore 5, 2) := by decide +kernel
theorem dX6_layBefore_11 : decode cX6_layBefore 11 = .ok (.iload 5, 2) := by decide +kernel
theorem dX6_layBefore_13 : decode cX6_layBefore 13 = .ok (.iconst 5, 1) := by decide +kernel
theorem dX6_layBefore_14 : decode cX6_layBefore 14 = .ok (.if_icmp .ge 26, 3) := by decide +kernel
theorem dX6_layBefore_17 : decode cX6_layBefore 17 = .ok (.aload_n 0, 1) := by decide +kernel
theorem dX6_layBefore_18 : decode cX6_layBefore 18 = .ok (.iload 5, 2) := by decide +kernel
theorem dX6_layBefore_20 : decode cX6_layBefore 20 = .ok (.aload_n 0, 1) := by decide +kernel
theorem dX6_layBefore_21 : decode cX6_layBefore 21 = .ok (.getfield 55, 3) := by decide +kernel
theorem dX6_layBefore_24 : decode cX6_layBefore 24 = .ok (.iconst 5, 1) := by decide +kernel
theorem dX6_layBefore_25 : decode cX6_layBefore 25 = .ok (.iload_n 2, 1) := by decide +kernel
theorem dX6_layBefore_26 : decode cX6_layBefore 26 = .ok (.imul, 1) := by decide +kernel
theorem dX6_layBefore_27 : decode cX6_layBefore 27 = .ok (.iload 5, 2) := by decide +kernel
theorem dX6_layBefore_29 : decode cX6_layBefore 29 = .ok (.iadd, 1) := by decide +kernel
theorem dX6_layBefore_30 : decode cX6_layBefore 30 = .ok (.iaload, 1) := by decide +kernel
theorem dX6_layBefore_31 : decode cX6_layBefore 31 = .ok (.invokevirtual 122, 3) := by decide +kernel
theorem dX6_layBefore_34 : decode cX6_layBefore 34 = .ok (.iinc 5 1, 3) := by decide +kernel
theorem dX6_layBefore_37 : decode cX6_layBefore 37 = .ok (.goto (-26), 3) := by decide +kernel
theorem dX6_layBefore_40 : decode cX6_layBefore 40 = .ok (.aload_n 0, 1) := by decide +kernel
theorem dX6_layBefore_41 : decode cX6_layBefore 41 = .ok (.getfield 19, 3) := by decide +kernel
theorem dX6_layBefore_44 : decode cX6_layBefore 44 = .ok (.iload_n 1, 1) := by decide +kernel
theorem dX6_layBefore_45 : decode cX6_layBefore 45 = .ok (.iaload, 1) := by decide +kernel
theorem dX6_layBefore_46 : decode cX6_layBefore 46 = .ok (.iconst 1, 1) := by decide +kernel
theorem dX6_layBefore_47 : decode cX6_layBefore 47 = .ok (.if_icmp .eq 13, 3) := by decide +kernel
theorem dX6_layBefore_50 : decode cX6_layBefore 50 = .ok (.aload_n 0, 1) := by decide +kernel
theorem dX6_layBefore_51 : decode cX6_layBefore 51 = .ok (.getfield 19, 3) := by decide +kernel
theorem dX6_layBefore_54 : decode cX6_layBefore 54 = .ok (.iload_n 1, 1) := by decide +kernel
theorem dX6_layBefore_55 : decode cX6_layBefore 55 = .ok (.iaload, 1) := by decide +kernel
theorem dX6_layBefore_56 : decode cX6_layBefore 56 = .ok (.iconst 2, 1) := by decide +kernel
theorem dX6_layBefore_57 : decode cX6_layBefore 57 = .ok (.if_icmp .ne 106, 3) := by decide +kernel
theorem dX6_layBefore_60 : decode cX6_layBefore 60 = .ok (.aload_n 0, 1) := by decide +kernel
theorem dX6_layBefore_61 : decode cX6_layBefore 61 = .ok (.getfield 55, 3) := by decide +kernel
theorem dX6_layBefore_64 : decode cX6_layBefore 64 = .ok (.iconst 5, 1) := by decide +kernel
theorem dX6_layBefore_65 : decode cX6_layBefore 65 = .ok (.iload_n 2, 1) := by decide +kernel
theorem dX6_layBefore_66 : decode cX6_layBefore 66 = .ok (.imul, 1) := by decide +kernel
theorem dX6_layBefore_67 : decode cX6_layBefore 67 = .ok (.iload 4, 2) := by decide +kernel
theorem dX6_layBefore_69 : decode cX6_layBefore 69 = .ok (.iadd, 1) := by decide +kernel
theorem dX6_layBefore_70 : decode cX6_layBefore 70 = .ok (.iaload, 1) := by decide +kernel
theorem dX6_layBefore_71 : decode cX6_layBefore 71 = .ok (.istore 5, 2) := by decide +kernel
theorem dX6_layBefore_73 : decode cX6_layBefore 73 = .ok (.aload_n 0, 1) := by decide +kernel
theorem dX6_layBefore_74 : decode cX6_layBefore 74 = .ok (.iload 4, 2) := by decide +kernel
theorem dX6_layBefore_76 : decode cX6_layBefore 76 = .ok (.iconst 0, 1) := by decide +kernel
theorem dX6_layBefore_77 : decode cX6_layBefore 77 = .ok (.invokevirtual 122, 3) := by decide +kernel
theorem dX6_layBefore_80 : decode cX6_layBefore 80 = .ok (.iconst 0, 1) := by decide +kernel
theorem dX6_layBefore_81 : decode cX6_layBefore 81 = .ok (.istore 6, 2) := by decide +kernel
theorem dX6_layBefore_83 : decode cX6_layBefore 83 = .ok (.iload 6, 2) := by decide +kernel
theorem dX6_layBefore_85 : decode cX6_layBefore 85 = .ok (.iconst 5, 1) := by decide +kernel
theorem dX6_layBefore_86 : decode cX6_layBefore 86 = .ok (.if_icmp .ge 77, 3) := by decide +kernel
theorem dX6_layBefore_89 : decode cX6_layBefore 89 = .ok (.aload_n 0, 1) := by decide +kernel
theorem dX6_layBefore_90 : decode cX6_layBefore 90 = .ok (.getfield 19, 3) := by decide +kernel
theorem dX6_layBefore_93 : decode cX6_layBefore 93 = .ok (.iload_n 1, 1) := by decide +kernel
theorem dX6_layBefore_94 : decode cX6_layBefore 94 = .ok (.iaload, 1) := by decide +kernel
theorem dX6_layBefore_95 : decode cX6_layBefore 95 = .ok (.iconst 1, 1) := by decide +kernel
theorem dX6_layBefore_96 : decode cX6_layBefore 96 = .ok (.if_icmp .ne 17, 3) := by decide +kernel
theorem dX6_layBefore_99 : decode cX6_layBefore 99 = .ok (.aload_n 0, 1) := by decide +kernel
theorem dX6_layBefore_100 : decode cX6_layBefore 100 = .ok (.getfield 25, 3) := by decide +kernel
theorem dX6_layBefore_103 : decode cX6_layBefore 103 = .ok (.iconst 5, 1) := by decide +kernel
theorem dX6_layBefore_104 : decode cX6_layBefore 104 = .ok (.iload_n 1, 1) := by decide +kernel
theorem dX6_layBefore_105 : decode cX6_layBefore 105 = .ok (.imul, 1) := by decide +kernel
theorem dX6_layBefore_106 : decode cX6_layBefore 106 = .ok (.iload 6, 2) := by decide +kernel
theorem dX6_layBefore_108 : decode cX6_layBefore 108 = .ok (.iadd, 1) := by decide +kernel
theorem dX6_layBefore_109 : decode cX6_layBefore 109 = .ok (.iaload, 1) := by decide +kernel
theorem dX6_layBefore_110 : decode cX6_layBefore 110 = .ok (.goto 13, 3) := by decide +kernel
theorem dX6_layBefore_113 : decode cX6_layBefore 113 = .ok (.iload 6, 2) := by decide +kernel
theorem dX6_layBefore_115 : decode cX6_layBefore 115 = .ok (.ifCond .ne 7, 3) := by decide +kernel
theorem dX6_layBefore_118 : decode cX6_layBefore 118 = .ok (.iload_n 3, 1) := by decide +kernel
theorem dX6_layBefore_119 : decode cX6_layBefore 119 = .ok (.goto 4, 3) := by decide +kernel
theorem dX6_layBefore_122 : decode cX6_layBefore 122 = .ok (.iconst 0, 1) := by decide +kernel
theorem dX6_layBefore_123 : decode cX6_layBefore 123 = .ok (.istore 7, 2) := by decide +kernel
theorem dX6_layBefore_125 : decode cX6_layBefore 125 = .ok (.aload_n 0, 1) := by decide +kernel
theorem dX6_layBefore_126 : decode cX6_layBefore 126 = .ok (.iload 6, 2) := by decide +kernel
theorem dX6_layBefore_128 : decode cX6_layBefore 128 = .ok (.aload_n 0, 1) := by decide +kernel
theorem dX6_layBefore_129 : decode cX6_layBefore 129 = .ok (.getfield 58, 3) := by decide +kernel
theorem dX6_layBefore_132 : decode cX6_layBefore 132 = .ok (.iconst 5, 1) := by decide +kernel
theorem dX6_layBefore_133 : decode cX6_layBefore 133 = .ok (.aload_n 0, 1) := by decide +kernel
theorem dX6_layBefore_134 : decode cX6_layBefore 134 = .ok (.getfield 84, 3) := by decide +kernel
theorem dX6_layBefore_137 : decode cX6_layBefore 137 = .ok (.imul, 1) := by decide +kernel
theorem dX6_layBefore_138 : decode cX6_layBefore 138 = .ok (.iload 6, 2) := by decide +kernel
theorem dX6_layBefore_140 : decode cX6_layBefore 140 = .ok (.iadd, 1) := by decide +kernel
theorem dX6_layBefore_141 : decode cX6_layBefore 141 = .ok (.iaload, 1) := by decide +kernel
theorem dX6_layBefore_142 : decode cX6_layBefore 142 = .ok (.i2l, 1) := by decide +kernel
theorem dX6_layBefore_143 : decode cX6_layBefore 143 = .ok (.iload 5, 2) := by decide +kernel
theorem dX6_layBefore_145 : decode cX6_layBefore 145 = .ok (.i2l, 1) := by decide +kernel
theorem dX6_layBefore_146 : decode cX6_layBefore 146 = .ok (.iload 7, 2) := by decide +kernel
theorem dX6_layBefore_148 : decode cX6_layBefore 148 = .ok (.i2l, 1) := by decide +kernel
theorem dX6_layBefore_149 : decode cX6_layBefore 149 = .ok (.lmul, 1) := by decide +kernel
theorem dX6_layBefore_150 : decode cX6_layBefore 150 = .ok (.ladd, 1) := by decide +kernel
theorem dX6_layBefore_151 : decode cX6_layBefore 151 = .ok (.invokestatic 80, 3) := by decide +kernel
theorem dX6_layBefore_154 : decode cX6_layBefore 154 = .ok (.invokevirtual 122, 3) := by decide +kernel
theorem dX6_layBefore_157 : decode cX6_layBefore 157 = .ok (.iinc 6 1, 3) := by decide +kernel
theorem dX6_layBefore_160 : decode cX6_layBefore 160 = .ok (.goto (-77), 3) := by decide +kernel
theorem dX6_layBefore_163 : decode cX6_layBefore 163 = .ok (.aload_n 0, 1) := by decide +kernel
theorem dX6_layBefore_164 : decode cX6_layBefore 164 = .ok (.dup, 1) := by decide +kernel
theorem dX6_layBefore_165 : decode cX6_layBefore 165 = .ok (.getfield 84, 3) := by decide +kernel
theorem dX6_layBefore_168 : decode cX6_layBefore 168 = .ok (.iconst 1, 1) := by decide +kernel
theorem dX6_layBefore_169 : decode cX6_layBefore 169 = .ok (.iadd, 1) := by decide +kernel
theorem dX6_layBefore_170 : decode cX6_layBefore 170 = .ok (.putfield 84, 3) := by decide +kernel
theorem dX6_layBefore_173 : decode cX6_layBefore 173 = .ok (.return_, 1) := by decide +kernel
set_option maxRecDepth 20000 in
theorem ggX6_follows_X6_layNotes : GoodIn wsX6_follows wsX6_layNotes := goodIn_r _ [5, 6, 7, 8, 9, 10, 11, 12, 13, 14, 15, 4, 16, 17, 45, 46, 47, 48, 49, 50, 51, 52, 53, 54, 55, 56, 57, 58, 59, 60, 61, 62, 63, 64, 65, 66, 67, 68, 69, 70, 71, 72, 73] (by decide +kernel) (by decide +kernel)
set_option maxRecDepth 20000 in
theorem gX6_follows_X6_layNotes : GoodIn wsX6_follows (wsV RX6 154 RX6 yX6_layNotes wsX6_layNotes) := goodIn_app (goodIn_of _ (by decide +kernel)) ggX6_follows_X6_layNotes
set_option maxRecDepth 20000 in
theorem ggX6_follows_X6_rank : GoodIn wsX6_follows wsX6_rank := goodIn_r _ [21, 22, 23, 6, 17, 24, 25, 26, 4, 27, 28, 29, 30, 31, 32, 33, 34, 35, 36, 37, 38, 39, 45, 46, 47, 48, 49, 50, 51, 52, 53, 54, 55, 56, 57, 58, 59, 60, 61, 62, 63, 64, 65, 66, 67, 68, 69, 70, 71, 72, 73] (by decide +kernel) (by decide +kernel)
set_option maxRecDepth 20000 in
theorem gX6_follows_X6_rank : GoodIn wsX6_follows (wsV RX6 129 RX6 yX6_rank wsX6_rank) := goodIn_app (goodIn_of _ (by decide +kernel)) ggX6_follows_X6_rank
set_option maxRecDepth 20000 in
theorem ggX6_follows_X6_layBefore : GoodIn wsX6_follows wsX6_layBefore := goodIn_r _ [43, 44, 10, 11, 12, 17, 6, 13, 14, 15, 4, 16, 32, 33, 34, 35, 45, 46, 47, 48, 49, 50, 51, 52, 53, 54, 55, 56, 57, 58, 59, 60, 61, 62, 63, 64, 65, 66, 67, 68, 69, 70, 71, 72, 73] (by decide +kernel) (by decide +kernel)
set_option maxRecDepth 20000 in
theorem gX6_follows_X6_layBefore : GoodIn wsX6_follows (wsV RX6 157 RX6 yX6_layBefore wsX6_layBefore) := goodIn_app (goodIn_of _ (by decide +kernel)) ggX6_follows_X6_layBefore
theorem dX6_follows_0 : decode cX6_follows 0 = .ok (.iconst 1, 1) := by decide +kernel
theorem dX6_follows_1 : decode cX6_follows 1 = .ok (.istore_n 3, 1) := by decide +kernel
theorem dX6_follows_2 : decode cX6_follows 2 = .ok (.iconst 0, 1) := by decide +kernel
theorem dX6_follows_3 : decode cX6_follows 3 = .ok (.istore 4, 2) := by decide +kernel
theorem dX6_follows_5 : decode cX6_follows 5 = .ok (.iload 4, 2) := by decide +kernel
theorem dX6_follows_7 : decode cX6_follows 7 = .ok (.iconst 2, 1) := by decide +kernel
theorem dX6_follows_8 : decode cX6_follows 8 = .ok (.if_icmp .ge 52, 3) := by decide +kernel
theorem dX6_follows_11 : decode cX6_follows 11 = .ok (.aload_n 0, 1) := by decide +kernel
theorem dX6_follows_12 : decode cX6_follows 12 = .ok (.iload_n 1, 1) := by decide +kernel
theorem dX6_follows_13 : decode cX6_follows 13 = .ok (.invokevirtual 154, 3) := by decide +kernel
theorem dX6_follows_16 : decode cX6_follows 16 = .ok (.aload_n 0, 1) := by decide +kernel
theorem dX6_follows_17 : decode cX6_follows 17 = .ok (.invokevirtual 129, 3) := by decide +kernel
theorem dX6_follows_20 : decode cX6_follows 20 = .ok (.istore 5, 2) := by decide +kernel
theorem dX6_follows_22 : decode cX6_follows 22 = .ok (.aload_n 0, 1) := by decide +kernel
theorem dX6_follows_23 : decode cX6_follows 23 = .ok (.iload_n 1, 1) := by decide +kernel
theorem dX6_follows_24 : decode cX6_follows 24 = .ok (.invokevirtual 154, 3) := by decide +kernel
theorem dX6_follows_27 : decode cX6_follows 27 = .ok (.aload_n 0, 1) := by decide +kernel
theorem dX6_follows_28 : decode cX6_follows 28 = .ok (.iload_n 1, 1) := by decide +kernel
theorem dX6_follows_29 : decode cX6_follows 29 = .ok (.iload_n 2, 1) := by decide +kernel
theorem dX6_follows_30 : decode cX6_follows 30 = .ok (.iload 4, 2) := by decide +kernel
theorem dX6_follows_32 : decode cX6_follows 32 = .ok (.invokevirtual 157, 3) := by decide +kernel
theorem dX6_follows_35 : decode cX6_follows 35 = .ok (.iload_n 3, 1) := by decide +kernel
theorem dX6_follows_36 : decode cX6_follows 36 = .ok (.ifCond .eq 16, 3) := by decide +kernel
theorem dX6_follows_39 : decode cX6_follows 39 = .ok (.aload_n 0, 1) := by decide +kernel
theorem dX6_follows_40 : decode cX6_follows 40 = .ok (.invokevirtual 129, 3) := by decide +kernel
theorem dX6_follows_43 : decode cX6_follows 43 = .ok (.iload 5, 2) := by decide +kernel
theorem dX6_follows_45 : decode cX6_follows 45 = .ok (.if_icmp .ne 7, 3) := by decide +kernel
theorem dX6_follows_48 : decode cX6_follows 48 = .ok (.iconst 1, 1) := by decide +kernel
theorem dX6_follows_49 : decode cX6_follows 49 = .ok (.goto 4, 3) := by decide +kernel
theorem dX6_follows_52 : decode cX6_follows 52 = .ok (.iconst 0, 1) := by decide +kernel
theorem dX6_follows_53 : decode cX6_follows 53 = .ok (.istore_n 3, 1) := by decide +kernel
theorem dX6_follows_54 : decode cX6_follows 54 = .ok (.iinc 4 1, 3) := by decide +kernel
theorem dX6_follows_57 : decode cX6_follows 57 = .ok (.goto (-52), 3) := by decide +kernel
theorem dX6_follows_60 : decode cX6_follows 60 = .ok (.iload_n 3, 1) := by decide +kernel
theorem dX6_follows_61 : decode cX6_follows 61 = .ok (.ireturn, 1) := by decide +kernel
set_option maxRecDepth 20000 in
theorem ggX6_sound_X6_follows : GoodIn wsX6_sound wsX6_follows := goodIn_r _ [11, 12, 13, 14, 10, 15, 16, 2, 3, 17, 18, 19, 20, 21, 22, 23, 24, 25, 26, 27, 28, 29, 30, 31, 32, 33, 34, 35, 36, 37, 38, 39, 40, 41, 42, 43, 44, 45, 46, 47, 48, 49, 50, 51, 52, 53, 54, 55, 56, 57, 58, 59, 60, 61, 62, 63, 64, 65, 66, 67, 68, 69, 70, 71, 72, 73, 74, 75, 76, 77, 78, 79, 80, 81] (by decide +kernel) (by decide +kernel)
set_option maxRecDepth 20000 in
theorem gX6_sound_X6_follows : GoodIn wsX6_sound (wsV RX6 160 RX6 yX6_follows wsX6_follows) := goodIn_app (goodIn_of _ (by decide +kernel)) ggX6_sound_X6_follows
theorem dX6_sound_0 : decode cX6_sound 0 = .ok (.aload_n 0, 1) := by decide +kernel
theorem dX6_sound_1 : decode cX6_sound 1 = .ok (.iconst 0, 1) := by decide +kernel
theorem dX6_sound_2 : decode cX6_sound 2 = .ok (.putfield 74, 3) := by decide +kernel
theorem dX6_sound_5 : decode cX6_sound 5 = .ok (.iconst 1, 1) := by decide +kernel
theorem dX6_sound_6 : decode cX6_sound 6 = .ok (.istore_n 1, 1) := by decide +kernel
theorem dX6_sound_7 : decode cX6_sound 7 = .ok (.iconst 0, 1) := by decide +kernel
theorem dX6_sound_8 : decode cX6_sound 8 = .ok (.istore_n 2, 1) := by decide +kernel
theorem dX6_sound_9 : decode cX6_sound 9 = .ok (.iload_n 2, 1) := by decide +kernel
theorem dX6_sound_10 : decode cX6_sound 10 = .ok (.aload_n 0, 1) := by decide +kernel
theorem dX6_sound_11 : decode cX6_sound 11 = .ok (.getfield 151, 3) := by decide +kernel
theorem dX6_sound_14 : decode cX6_sound 14 = .ok (.if_icmp .ge 82, 3) := by decide +kernel
theorem dX6_sound_17 : decode cX6_sound 17 = .ok (.iload_n 1, 1) := by decide +kernel
theorem dX6_sound_18 : decode cX6_sound 18 = .ok (.ifCond .eq 78, 3) := by decide +kernel
theorem dX6_sound_21 : decode cX6_sound 21 = .ok (.aload_n 0, 1) := by decide +kernel
theorem dX6_sound_22 : decode cX6_sound 22 = .ok (.getfield 52, 3) := by decide +kernel
theorem dX6_sound_25 : decode cX6_sound 25 = .ok (.iload_n 2, 1) := by decide +kernel
theorem dX6_sound_26 : decode cX6_sound 26 = .ok (.iaload, 1) := by decide +kernel
theorem dX6_sound_27 : decode cX6_sound 27 = .ok (.aload_n 0, 1) := by decide +kernel
theorem dX6_sound_28 : decode cX6_sound 28 = .ok (.getfield 113, 3) := by decide +kernel
theorem dX6_sound_31 : decode cX6_sound 31 = .ok (.if_icmp .eq 7, 3) := by decide +kernel
theorem dX6_sound_34 : decode cX6_sound 34 = .ok (.iconst 1, 1) := by decide +kernel
theorem dX6_sound_35 : decode cX6_sound 35 = .ok (.goto 4, 3) := by decide +kernel
theorem dX6_sound_38 : decode cX6_sound 38 = .ok (.iconst 0, 1) := by decide +kernel
theorem dX6_sound_39 : decode cX6_sound 39 = .ok (.istore_n 1, 1) := by decide +kernel
theorem dX6_sound_40 : decode cX6_sound 40 = .ok (.iconst 0, 1) := by decide +kernel
theorem dX6_sound_41 : decode cX6_sound 41 = .ok (.istore_n 3, 1) := by decide +kernel
theorem dX6_sound_42 : decode cX6_sound 42 = .ok (.iload_n 3, 1) := by decide +kernel
theorem dX6_sound_43 : decode cX6_sound 43 = .ok (.aload_n 0, 1) := by decide +kernel
theorem dX6_sound_44 : decode cX6_sound 44 = .ok (.getfield 103, 3) := by decide +kernel
theorem dX6_sound_47 : decode cX6_sound 47 = .ok (.if_icmp .ge 43, 3) := by decide +kernel
theorem dX6_sound_50 : decode cX6_sound 50 = .ok (.iload_n 1, 1) := by decide +kernel
theorem dX6_sound_51 : decode cX6_sound 51 = .ok (.ifCond .eq 39, 3) := by decide +kernel
theorem dX6_sound_54 : decode cX6_sound 54 = .ok (.aload_n 0, 1) := by decide +kernel
theorem dX6_sound_55 : decode cX6_sound 55 = .ok (.getfield 16, 3) := by decide +kernel
theorem dX6_sound_58 : decode cX6_sound 58 = .ok (.iload_n 3, 1) := by decide +kernel
theorem dX6_sound_59 : decode cX6_sound 59 = .ok (.iaload, 1) := by decide +kernel
theorem dX6_sound_60 : decode cX6_sound 60 = .ok (.aload_n 0, 1) := by decide +kernel
theorem dX6_sound_61 : decode cX6_sound 61 = .ok (.getfield 52, 3) := by decide +kernel
theorem dX6_sound_64 : decode cX6_sound 64 = .ok (.iload_n 2, 1) := by decide +kernel
theorem dX6_sound_65 : decode cX6_sound 65 = .ok (.iaload, 1) := by decide +kernel
theorem dX6_sound_66 : decode cX6_sound 66 = .ok (.if_icmp .ne 12, 3) := by decide +kernel
theorem dX6_sound_69 : decode cX6_sound 69 = .ok (.aload_n 0, 1) := by decide +kernel
theorem dX6_sound_70 : decode cX6_sound 70 = .ok (.iload_n 3, 1) := by decide +kernel
theorem dX6_sound_71 : decode cX6_sound 71 = .ok (.iload_n 2, 1) := by decide +kernel
theorem dX6_sound_72 : decode cX6_sound 72 = .ok (.invokevirtual 160, 3) := by decide +kernel
theorem dX6_sound_75 : decode cX6_sound 75 = .ok (.ifCond .eq 7, 3) := by decide +kernel
theorem dX6_sound_78 : decode cX6_sound 78 = .ok (.iconst 1, 1) := by decide +kernel
theorem dX6_sound_79 : decode cX6_sound 79 = .ok (.goto 4, 3) := by decide +kernel
theorem dX6_sound_82 : decode cX6_sound 82 = .ok (.iconst 0, 1) := by decide +kernel
theorem dX6_sound_83 : decode cX6_sound 83 = .ok (.istore_n 1, 1) := by decide +kernel
theorem dX6_sound_84 : decode cX6_sound 84 = .ok (.iinc 3 1, 3) := by decide +kernel
theorem dX6_sound_87 : decode cX6_sound 87 = .ok (.goto (-45), 3) := by decide +kernel
theorem dX6_sound_90 : decode cX6_sound 90 = .ok (.iinc 2 1, 3) := by decide +kernel
theorem dX6_sound_93 : decode cX6_sound 93 = .ok (.goto (-84), 3) := by decide +kernel
theorem dX6_sound_96 : decode cX6_sound 96 = .ok (.iload_n 1, 1) := by decide +kernel
theorem dX6_sound_97 : decode cX6_sound 97 = .ok (.ireturn, 1) := by decide +kernel
theorem dJ9_floorMod_7cf53_0 : decode cJ9_floorMod_7cf53 0 = .ok (.iload_n 0, 1) := by decide +kernel
theorem dJ9_floorMod_7cf53_1 : decode cJ9_floorMod_7cf53 1 = .ok (.iload_n 1, 1) := by decide +kernel
theorem dJ9_floorMod_7cf53_2 : decode cJ9_floorMod_7cf53 2 = .ok (.irem, 1) := by decide +kernel
theorem dJ9_floorMod_7cf53_3 : decode cJ9_floorMod_7cf53 3 = .ok (.istore_n 2, 1) := by decide +kernel
theorem dJ9_floorMod_7cf53_4 : decode cJ9_floorMod_7cf53 4 = .ok (.iload_n 0, 1) := by decide +kernel
theorem dJ9_floorMod_7cf53_5 : decode cJ9_floorMod_7cf53 5 = .ok (.iload_n 1, 1) := by decide +kernel
theorem dJ9_floorMod_7cf53_6 : decode cJ9_floorMod_7cf53 6 = .ok (.ixor, 1) := by decide +kernel
theorem dJ9_floorMod_7cf53_7 : decode cJ9_floorMod_7cf53 7 = .ok (.ifCond .ge 11, 3) := by decide +kernel
theorem dJ9_floorMod_7cf53_10 : decode cJ9_floorMod_7cf53 10 = .ok (.iload_n 2, 1) := by decide +kernel
theorem dJ9_floorMod_7cf53_11 : decode cJ9_floorMod_7cf53 11 = .ok (.ifCond .eq 7, 3) := by decide +kernel
theorem dJ9_floorMod_7cf53_14 : decode cJ9_floorMod_7cf53 14 = .ok (.iload_n 2, 1) := by decide +kernel
theorem dJ9_floorMod_7cf53_15 : decode cJ9_floorMod_7cf53 15 = .ok (.iload_n 1, 1) := by decide +kernel
theorem dJ9_floorMod_7cf53_16 : decode cJ9_floorMod_7cf53 16 = .ok (.iadd, 1) := by decide +kernel
theorem dJ9_floorMod_7cf53_17 : decode cJ9_floorMod_7cf53 17 = .ok (.ireturn, 1) := by decide +kernel
theorem dJ9_floorMod_7cf53_18 : decode cJ9_floorMod_7cf53 18 = .ok (.iload_n 2, 1) := by decide +kernel
theorem dJ9_floorMod_7cf53_19 : decode cJ9_floorMod_7cf53 19 = .ok (.ireturn, 1) := by decide +kernel
theorem dJ9_max_7cf53_0 : decode cJ9_max_7cf53 0 = .ok (.iload_n 0, 1) := by decide +kernel
theorem dJ9_max_7cf53_1 : decode cJ9_max_7cf53 1 = .ok (.iload_n 1, 1) := by decide +kernel
theorem dJ9_max_7cf53_2 : decode cJ9_max_7cf53 2 = .ok (.if_icmp .lt 7, 3) := by decide +kernel
theorem dJ9_max_7cf53_5 : decode cJ9_max_7cf53 5 = .ok (.iload_n 0, 1) := by decide +kernel
theorem dJ9_max_7cf53_6 : decode cJ9_max_7cf53 6 = .ok (.goto 4, 3) := by decide +kernel
theorem dJ9_max_7cf53_9 : decode cJ9_max_7cf53 9 = .ok (.iload_n 1, 1) := by decide +kernel
theorem dJ9_max_7cf53_10 : decode cJ9_max_7cf53 10 = .ok (.ireturn, 1) := by decide +kernel
theorem dJ9_min_7cf53_0 : decode cJ9_min_7cf53 0 = .ok (.iload_n 0, 1) := by decide +kernel
theorem dJ9_min_7cf53_1 : decode cJ9_min_7cf53 1 = .ok (.iload_n 1, 1) := by decide +kernel
theorem dJ9_min_7cf53_2 : decode cJ9_min_7cf53 2 = .ok (.if_icmp .gt 7, 3) := by decide +kernel
theorem dJ9_min_7cf53_5 : decode cJ9_min_7cf53 5 = .ok (.iload_n 0, 1) := by decide +kernel
theorem dJ9_min_7cf53_6 : decode cJ9_min_7cf53 6 = .ok (.goto 4, 3) := by decide +kernel
theorem dJ9_min_7cf53_9 : decode cJ9_min_7cf53 9 = .ok (.iload_n 1, 1) := by decide +kernel
theorem dJ9_min_7cf53_10 : decode cJ9_min_7cf53 10 = .ok (.ireturn, 1) := by decide +kernel
theorem dJ7_fill_53178_0 : decode cJ7_fill_53178 0 = .ok (.iconst 0, 1) := by decide +kernel
theorem dJ7_fill_53178_1 : decode cJ7_fill_53178 1 = .ok (.istore_n 2, 1) := by decide +kernel
theorem dJ7_fill_53178_2 : decode cJ7_fill_53178 2 = .ok (.aload_n 0, 1) := by decide +kernel
theorem dJ7_fill_53178_3 : decode cJ7_fill_53178 3 = .ok (.arraylength, 1) := by decide +kernel
theorem dJ7_fill_53178_4 : decode cJ7_fill_53178 4 = .ok (.istore_n 3, 1) := by decide +kernel
theorem dJ7_fill_53178_5 : decode cJ7_fill_53178 5 = .ok (.iload_n 2, 1) := by decide +kernel
theorem dJ7_fill_53178_6 : decode cJ7_fill_53178 6 = .ok (.iload_n 3, 1) := by decide +kernel
theorem dJ7_fill_53178_7 : decode cJ7_fill_53178 7 = .ok (.if_icmp .ge 13, 3) := by decide +kernel
theorem dJ7_fill_53178_10 : decode cJ7_fill_53178 10 = .ok (.aload_n 0, 1) := by decide +kernel
theorem dJ7_fill_53178_11 : decode cJ7_fill_53178 11 = .ok (.iload_n 2, 1) := by decide +kernel
theorem dJ7_fill_53178_12 : decode cJ7_fill_53178 12 = .ok (.iload_n 1, 1) := by decide +kernel
theorem dJ7_fill_53178_13 : decode cJ7_fill_53178 13 = .ok (.iastore, 1) := by decide +kernel
theorem dJ7_fill_53178_14 : decode cJ7_fill_53178 14 = .ok (.iinc 2 1, 3) := by decide +kernel
theorem dJ7_fill_53178_17 : decode cJ7_fill_53178 17 = .ok (.goto (-12), 3) := by decide +kernel
theorem dJ7_fill_53178_20 : decode cJ7_fill_53178 20 = .ok (.return_, 1) := by decide +kernel
