theorem dX5_addPoint_52 : decode cX5_addPoint 52 = .ok (.aload 4, 2) := by decide +kernel
theorem dX5_addPoint_54 : decode cX5_addPoint 54 = .ok (.getfield 138, 3) := by decide +kernel
theorem dX5_addPoint_57 : decode cX5_addPoint 57 = .ok (.aload 4, 2) := by decide +kernel
theorem dX5_addPoint_59 : decode cX5_addPoint 59 = .ok (.getfield 130, 3) := by decide +kernel
theorem dX5_addPoint_62 : decode cX5_addPoint 62 = .ok (.aload_n 0, 1) := by decide +kernel
theorem dX5_addPoint_63 : decode cX5_addPoint 63 = .ok (.getfield 120, 3) := by decide +kernel
theorem dX5_addPoint_66 : decode cX5_addPoint 66 = .ok (.iastore, 1) := by decide +kernel
theorem dX5_addPoint_67 : decode cX5_addPoint 67 = .ok (.aload 4, 2) := by decide +kernel
theorem dX5_addPoint_69 : decode cX5_addPoint 69 = .ok (.dup, 1) := by decide +kernel
theorem dX5_addPoint_70 : decode cX5_addPoint 70 = .ok (.getfield 130, 3) := by decide +kernel
theorem dX5_addPoint_73 : decode cX5_addPoint 73 = .ok (.iconst 1, 1) := by decide +kernel
theorem dX5_addPoint_74 : decode cX5_addPoint 74 = .ok (.iadd, 1) := by decide +kernel
theorem dX5_addPoint_75 : decode cX5_addPoint 75 = .ok (.putfield 130, 3) := by decide +kernel
theorem dX5_addPoint_78 : decode cX5_addPoint 78 = .ok (.aload_n 0, 1) := by decide +kernel
theorem dX5_addPoint_79 : decode cX5_addPoint 79 = .ok (.dup, 1) := by decide +kernel
theorem dX5_addPoint_80 : decode cX5_addPoint 80 = .ok (.getfield 120, 3) := by decide +kernel
theorem dX5_addPoint_83 : decode cX5_addPoint 83 = .ok (.iconst 1, 1) := by decide +kernel
theorem dX5_addPoint_84 : decode cX5_addPoint 84 = .ok (.iadd, 1) := by decide +kernel
theorem dX5_addPoint_85 : decode cX5_addPoint 85 = .ok (.putfield 120, 3) := by decide +kernel
theorem dX5_addPoint_88 : decode cX5_addPoint 88 = .ok (.return_, 1) := by decide +kernel
set_option maxRecDepth 20000 in
theorem ggX5_holdsAtPoints_X5_valueOf : GoodIn wsX5_holdsAtPoints wsX5_valueOf := goodIn_r _ [9, 10] (by decide +kernel) (by decide +kernel)
set_option maxRecDepth 20000 in
theorem gX5_holdsAtPoints_X5_valueOf : GoodIn wsX5_holdsAtPoints (va_wsS RX5 248 yX5_valueOf wsX5_valueOf) := goodIn_app (goodIn_of _ (by decide +kernel)) ggX5_holdsAtPoints_X5_valueOf
theorem dX5_holdsAtPoints_0 : decode cX5_holdsAtPoints 0 = .ok (.iconst 0, 1) := by decide +kernel
theorem dX5_holdsAtPoints_1 : decode cX5_holdsAtPoints 1 = .ok (.istore_n 2, 1) := by decide +kernel
theorem dX5_holdsAtPoints_2 : decode cX5_holdsAtPoints 2 = .ok (.iload_n 2, 1) := by decide +kernel
theorem dX5_holdsAtPoints_3 : decode cX5_holdsAtPoints 3 = .ok (.aload_n 1, 1) := by decide +kernel
theorem dX5_holdsAtPoints_4 : decode cX5_holdsAtPoints 4 = .ok (.getfield 130, 3) := by decide +kernel
theorem dX5_holdsAtPoints_7 : decode cX5_holdsAtPoints 7 = .ok (.if_icmp .ge 35, 3) := by decide +kernel
theorem dX5_holdsAtPoints_10 : decode cX5_holdsAtPoints 10 = .ok (.aload_n 0, 1) := by decide +kernel
theorem dX5_holdsAtPoints_11 : decode cX5_holdsAtPoints 11 = .ok (.getfield 22, 3) := by decide +kernel
theorem dX5_holdsAtPoints_14 : decode cX5_holdsAtPoints 14 = .ok (.aload_n 0, 1) := by decide +kernel
theorem dX5_holdsAtPoints_15 : decode cX5_holdsAtPoints 15 = .ok (.getfield 64, 3) := by decide +kernel
theorem dX5_holdsAtPoints_18 : decode cX5_holdsAtPoints 18 = .ok (.aload_n 1, 1) := by decide +kernel
theorem dX5_holdsAtPoints_19 : decode cX5_holdsAtPoints 19 = .ok (.getfield 138, 3) := by decide +kernel
theorem dX5_holdsAtPoints_22 : decode cX5_holdsAtPoints 22 = .ok (.iload_n 2, 1) := by decide +kernel
theorem dX5_holdsAtPoints_23 : decode cX5_holdsAtPoints 23 = .ok (.iaload, 1) := by decide +kernel
theorem dX5_holdsAtPoints_24 : decode cX5_holdsAtPoints 24 = .ok (.aaload, 1) := by decide +kernel
theorem dX5_holdsAtPoints_25 : decode cX5_holdsAtPoints 25 = .ok (.getfield 144, 3) := by decide +kernel
theorem dX5_holdsAtPoints_28 : decode cX5_holdsAtPoints 28 = .ok (.invokestatic 248, 3) := by decide +kernel
theorem dX5_holdsAtPoints_31 : decode cX5_holdsAtPoints 31 = .ok (.ifCond .eq 5, 3) := by decide +kernel
theorem dX5_holdsAtPoints_34 : decode cX5_holdsAtPoints 34 = .ok (.iconst 0, 1) := by decide +kernel
theorem dX5_holdsAtPoints_35 : decode cX5_holdsAtPoints 35 = .ok (.ireturn, 1) := by decide +kernel
theorem dX5_holdsAtPoints_36 : decode cX5_holdsAtPoints 36 = .ok (.iinc 2 1, 3) := by decide +kernel
theorem dX5_holdsAtPoints_39 : decode cX5_holdsAtPoints 39 = .ok (.goto (-37), 3) := by decide +kernel
theorem dX5_holdsAtPoints_42 : decode cX5_holdsAtPoints 42 = .ok (.iconst 1, 1) := by decide +kernel
theorem dX5_holdsAtPoints_43 : decode cX5_holdsAtPoints 43 = .ok (.ireturn, 1) := by decide +kernel
set_option maxRecDepth 20000 in
theorem ggX5_noteEquations_X1_equationCount : GoodIn wsX5_noteEquations wsX1_equationCount := goodIn_r _ [11, 12, 13, 61, 62, 63] (by decide +kernel) (by decide +kernel)
set_option maxRecDepth 20000 in
theorem gX5_noteEquations_X1_equationCount : GoodIn wsX5_noteEquations (wsV RX5 147 RX1 yX1_equationCount wsX1_equationCount) := goodIn_app (goodIn_of _ (by decide +kernel)) ggX5_noteEquations_X1_equationCount
set_option maxRecDepth 20000 in
theorem ggX5_noteEquations_X4_freePlace : GoodIn wsX5_noteEquations wsX4_freePlace := goodIn_r _ [18, 19, 64, 65, 66] (by decide +kernel) (by decide +kernel)
set_option maxRecDepth 20000 in
theorem gX5_noteEquations_X4_freePlace : GoodIn wsX5_noteEquations (wsV RX5 156 RX4 yX4_freePlace wsX4_freePlace) := goodIn_app (goodIn_of _ (by decide +kernel)) ggX5_noteEquations_X4_freePlace
set_option maxRecDepth 20000 in
theorem ggX5_noteEquations_X4_vanishing : GoodIn wsX5_noteEquations wsX4_vanishing := goodIn_r _ [23, 19, 24, 25, 26, 27, 28, 29, 30, 31, 32, 64, 65, 66] (by decide +kernel) (by decide +kernel)
set_option maxRecDepth 20000 in
theorem gX5_noteEquations_X4_vanishing : GoodIn wsX5_noteEquations (wsV RX5 159 RX4 yX4_vanishing wsX4_vanishing) := goodIn_app (goodIn_of _ (by decide +kernel)) ggX5_noteEquations_X4_vanishing
set_option maxRecDepth 20000 in
theorem ggX5_noteEquations_X2_set : GoodIn wsX5_noteEquations wsX2_set := goodIn_r _ [37, 38, 39, 40, 26, 41, 42, 43, 44, 45, 67, 68] (by decide +kernel) (by decide +kernel)
set_option maxRecDepth 20000 in
theorem gX5_noteEquations_X2_set : GoodIn wsX5_noteEquations (wsV RX5 189 RX2 yX2_set wsX2_set) := goodIn_app (goodIn_of _ (by decide +kernel)) ggX5_noteEquations_X2_set
theorem dX5_noteEquations_0 : decode cX5_noteEquations 0 = .ok (.aload_n 0, 1) := by decide +kernel
theorem dX5_noteEquations_1 : decode cX5_noteEquations 1 = .ok (.getfield 57, 3) := by decide +kernel
theorem dX5_noteEquations_4 : decode cX5_noteEquations 4 = .ok (.iload_n 1, 1) := by decide +kernel
theorem dX5_noteEquations_5 : decode cX5_noteEquations 5 = .ok (.aaload, 1) := by decide +kernel
theorem dX5_noteEquations_6 : decode cX5_noteEquations 6 = .ok (.astore_n 2, 1) := by decide +kernel
theorem dX5_noteEquations_7 : decode cX5_noteEquations 7 = .ok (.aload_n 2, 1) := by decide +kernel
theorem dX5_noteEquations_8 : decode cX5_noteEquations 8 = .ok (.invokevirtual 147, 3) := by decide +kernel
theorem dX5_noteEquations_11 : decode cX5_noteEquations 11 = .ok (.istore_n 3, 1) := by decide +kernel
theorem dX5_noteEquations_12 : decode cX5_noteEquations 12 = .ok (.iconst 0, 1) := by decide +kernel
theorem dX5_noteEquations_13 : decode cX5_noteEquations 13 = .ok (.istore 4, 2) := by decide +kernel
theorem dX5_noteEquations_15 : decode cX5_noteEquations 15 = .ok (.iload 4, 2) := by decide +kernel
theorem dX5_noteEquations_17 : decode cX5_noteEquations 17 = .ok (.iload_n 3, 1) := by decide +kernel
theorem dX5_noteEquations_18 : decode cX5_noteEquations 18 = .ok (.if_icmp .ge 83, 3) := by decide +kernel
theorem dX5_noteEquations_21 : decode cX5_noteEquations 21 = .ok (.aload_n 2, 1) := by decide +kernel
theorem dX5_noteEquations_22 : decode cX5_noteEquations 22 = .ok (.getfield 153, 3) := by decide +kernel
theorem dX5_noteEquations_25 : decode cX5_noteEquations 25 = .ok (.iload 4, 2) := by decide +kernel
theorem dX5_noteEquations_27 : decode cX5_noteEquations 27 = .ok (.invokevirtual 156, 3) := by decide +kernel
theorem dX5_noteEquations_30 : decode cX5_noteEquations 30 = .ok (.istore 5, 2) := by decide +kernel
theorem dX5_noteEquations_32 : decode cX5_noteEquations 32 = .ok (.iconst 0, 1) := by decide +kernel
theorem dX5_noteEquations_33 : decode cX5_noteEquations 33 = .ok (.istore 6, 2) := by decide +kernel
theorem dX5_noteEquations_35 : decode cX5_noteEquations 35 = .ok (.iload 6, 2) := by decide +kernel
theorem dX5_noteEquations_37 : decode cX5_noteEquations 37 = .ok (.aload_n 0, 1) := by decide +kernel
theorem dX5_noteEquations_38 : decode cX5_noteEquations 38 = .ok (.getfield 18, 3) := by decide +kernel
theorem dX5_noteEquations_41 : decode cX5_noteEquations 41 = .ok (.if_icmp .gt 27, 3) := by decide +kernel
theorem dX5_noteEquations_44 : decode cX5_noteEquations 44 = .ok (.aload_n 0, 1) := by decide +kernel
theorem dX5_noteEquations_45 : decode cX5_noteEquations 45 = .ok (.getfield 26, 3) := by decide +kernel
theorem dX5_noteEquations_48 : decode cX5_noteEquations 48 = .ok (.iload 6, 2) := by decide +kernel
theorem dX5_noteEquations_50 : decode cX5_noteEquations 50 = .ok (.aload_n 2, 1) := by decide +kernel
theorem dX5_noteEquations_51 : decode cX5_noteEquations 51 = .ok (.getfield 153, 3) := by decide +kernel
theorem dX5_noteEquations_54 : decode cX5_noteEquations 54 = .ok (.iload 5, 2) := by decide +kernel
theorem dX5_noteEquations_56 : decode cX5_noteEquations 56 = .ok (.iload 6, 2) := by decide +kernel
theorem dX5_noteEquations_58 : decode cX5_noteEquations 58 = .ok (.invokevirtual 159, 3) := by decide +kernel
theorem dX5_noteEquations_61 : decode cX5_noteEquations 61 = .ok (.iastore, 1) := by decide +kernel
theorem dX5_noteEquations_62 : decode cX5_noteEquations 62 = .ok (.iinc 6 1, 3) := by decide +kernel
theorem dX5_noteEquations_65 : decode cX5_noteEquations 65 = .ok (.goto (-30), 3) := by decide +kernel
theorem dX5_noteEquations_68 : decode cX5_noteEquations 68 = .ok (.aload_n 0, 1) := by decide +kernel
theorem dX5_noteEquations_69 : decode cX5_noteEquations 69 = .ok (.getfield 50, 3) := by decide +kernel
theorem dX5_noteEquations_72 : decode cX5_noteEquations 72 = .ok (.aload_n 0, 1) := by decide +kernel
theorem dX5_noteEquations_73 : decode cX5_noteEquations 73 = .ok (.getfield 184, 3) := by decide +kernel
theorem dX5_noteEquations_76 : decode cX5_noteEquations 76 = .ok (.aaload, 1) := by decide +kernel
theorem dX5_noteEquations_77 : decode cX5_noteEquations 77 = .ok (.iload_n 1, 1) := by decide +kernel
theorem dX5_noteEquations_78 : decode cX5_noteEquations 78 = .ok (.aload_n 0, 1) := by decide +kernel
theorem dX5_noteEquations_79 : decode cX5_noteEquations 79 = .ok (.getfield 26, 3) := by decide +kernel
theorem dX5_noteEquations_82 : decode cX5_noteEquations 82 = .ok (.invokevirtual 189, 3) := by decide +kernel
theorem dX5_noteEquations_85 : decode cX5_noteEquations 85 = .ok (.aload_n 0, 1) := by decide +kernel
theorem dX5_noteEquations_86 : decode cX5_noteEquations 86 = .ok (.dup, 1) := by decide +kernel
theorem dX5_noteEquations_87 : decode cX5_noteEquations 87 = .ok (.getfield 184, 3) := by decide +kernel
theorem dX5_noteEquations_90 : decode cX5_noteEquations 90 = .ok (.iconst 1, 1) := by decide +kernel
theorem dX5_noteEquations_91 : decode cX5_noteEquations 91 = .ok (.iadd, 1) := by decide +kernel
theorem dX5_noteEquations_92 : decode cX5_noteEquations 92 = .ok (.putfield 184, 3) := by decide +kernel
theorem dX5_noteEquations_95 : decode cX5_noteEquations 95 = .ok (.iinc 4 1, 3) := by decide +kernel
theorem dX5_noteEquations_98 : decode cX5_noteEquations 98 = .ok (.goto (-83), 3) := by decide +kernel
theorem dX5_noteEquations_101 : decode cX5_noteEquations 101 = .ok (.return_, 1) := by decide +kernel
set_option maxRecDepth 20000 in
theorem ggX5_keepsNotes_X5_spanNotesBefore : GoodIn wsX5_keepsNotes wsX5_spanNotesBefore := goodIn_r _ [10, 11, 1, 2, 3, 12, 13, 5, 14, 15, 16, 17, 18, 19, 20, 21, 22, 23, 24, 25, 26, 27, 28, 29, 30, 31, 32, 9, 33, 34, 35, 36, 37, 38, 39, 40, 41, 42, 43, 44, 45, 46, 47, 48, 49, 50, 51, 77, 78, 79, 80, 81, 82, 83, 84, 85, 86, 87, 88, 89, 90, 91, 92, 93, 94, 95, 96, 97, 98, 99, 100, 101] (by decide +kernel) (by decide +kernel)
set_option maxRecDepth 20000 in
theorem gX5_keepsNotes_X5_spanNotesBefore : GoodIn wsX5_keepsNotes (wsV RX5 252 RX5 yX5_spanNotesBefore wsX5_spanNotesBefore) := goodIn_app (goodIn_of _ (by decide +kernel)) ggX5_keepsNotes_X5_spanNotesBefore
set_option maxRecDepth 20000 in
theorem ggX5_keepsNotes_X5_followsBefore : GoodIn wsX5_keepsNotes wsX5_followsBefore := goodIn_r _ [55, 13, 56, 11, 57, 32, 9, 33, 34, 35, 36, 37, 58, 59, 60, 61, 62, 63, 64, 65, 38, 39, 40, 66, 67, 68, 69, 70, 71, 72, 73, 74, 75, 18, 76, 28, 29, 30, 31, 26, 20, 27, 25, 41, 42, 43, 44, 92, 93, 77, 78, 79, 80, 81, 82, 83, 84, 85, 86, 87, 88, 89, 90, 91, 94, 95, 96, 97, 98, 99, 100, 101] (by decide +kernel) (by decide +kernel)
set_option maxRecDepth 20000 in
theorem gX5_keepsNotes_X5_followsBefore : GoodIn wsX5_keepsNotes (wsV RX5 256 RX5 yX5_followsBefore wsX5_followsBefore) := goodIn_app (goodIn_of _ (by decide +kernel)) ggX5_keepsNotes_X5_followsBefore
theorem dX5_keepsNotes_0 : decode cX5_keepsNotes 0 = .ok (.aload_n 0, 1) := by decide +kernel
theorem dX5_keepsNotes_1 : decode cX5_keepsNotes 1 = .ok (.aload_n 1, 1) := by decide +kernel
theorem dX5_keepsNotes_2 : decode cX5_keepsNotes 2 = .ok (.invokevirtual 252, 3) := by decide +kernel
theorem dX5_keepsNotes_5 : decode cX5_keepsNotes 5 = .ok (.iconst 0, 1) := by decide +kernel
theorem dX5_keepsNotes_6 : decode cX5_keepsNotes 6 = .ok (.istore_n 2, 1) := by decide +kernel
theorem dX5_keepsNotes_7 : decode cX5_keepsNotes 7 = .ok (.iload_n 2, 1) := by decide +kernel
theorem dX5_keepsNotes_8 : decode cX5_keepsNotes 8 = .ok (.aload_n 0, 1) := by decide +kernel
theorem dX5_keepsNotes_9 : decode cX5_keepsNotes 9 = .ok (.getfield 184, 3) := by decide +kernel
theorem dX5_keepsNotes_12 : decode cX5_keepsNotes 12 = .ok (.if_icmp .ge 62, 3) := by decide +kernel
theorem dX5_keepsNotes_15 : decode cX5_keepsNotes 15 = .ok (.aload_n 0, 1) := by decide +kernel
theorem dX5_keepsNotes_16 : decode cX5_keepsNotes 16 = .ok (.getfield 50, 3) := by decide +kernel
theorem dX5_keepsNotes_19 : decode cX5_keepsNotes 19 = .ok (.iload_n 2, 1) := by decide +kernel
theorem dX5_keepsNotes_20 : decode cX5_keepsNotes 20 = .ok (.aaload, 1) := by decide +kernel
theorem dX5_keepsNotes_21 : decode cX5_keepsNotes 21 = .ok (.astore_n 3, 1) := by decide +kernel
theorem dX5_keepsNotes_22 : decode cX5_keepsNotes 22 = .ok (.aload_n 3, 1) := by decide +kernel
theorem dX5_keepsNotes_23 : decode cX5_keepsNotes 23 = .ok (.getfield 200, 3) := by decide +kernel
theorem dX5_keepsNotes_26 : decode cX5_keepsNotes 26 = .ok (.aload_n 1, 1) := by decide +kernel
theorem dX5_keepsNotes_27 : decode cX5_keepsNotes 27 = .ok (.getfield 181, 3) := by decide +kernel
theorem dX5_keepsNotes_30 : decode cX5_keepsNotes 30 = .ok (.if_icmp .eq 6, 3) := by decide +kernel
theorem dX5_keepsNotes_33 : decode cX5_keepsNotes 33 = .ok (.goto 35, 3) := by decide +kernel
theorem dX5_keepsNotes_36 : decode cX5_keepsNotes 36 = .ok (.aload_n 0, 1) := by decide +kernel
theorem dX5_keepsNotes_37 : decode cX5_keepsNotes 37 = .ok (.aload_n 1, 1) := by decide +kernel
theorem dX5_keepsNotes_38 : decode cX5_keepsNotes 38 = .ok (.aload_n 3, 1) := by decide +kernel
theorem dX5_keepsNotes_39 : decode cX5_keepsNotes 39 = .ok (.iconst 0, 1) := by decide +kernel
theorem dX5_keepsNotes_40 : decode cX5_keepsNotes 40 = .ok (.invokevirtual 256, 3) := by decide +kernel
theorem dX5_keepsNotes_43 : decode cX5_keepsNotes 43 = .ok (.ifCond .ne 5, 3) := by decide +kernel
theorem dX5_keepsNotes_46 : decode cX5_keepsNotes 46 = .ok (.iconst 0, 1) := by decide +kernel
theorem dX5_keepsNotes_47 : decode cX5_keepsNotes 47 = .ok (.ireturn, 1) := by decide +kernel
theorem dX5_keepsNotes_48 : decode cX5_keepsNotes 48 = .ok (.aload_n 1, 1) := by decide +kernel
theorem dX5_keepsNotes_49 : decode cX5_keepsNotes 49 = .ok (.getfield 232, 3) := by decide +kernel
theorem dX5_keepsNotes_52 : decode cX5_keepsNotes 52 = .ok (.iconst 2, 1) := by decide +kernel
theorem dX5_keepsNotes_53 : decode cX5_keepsNotes 53 = .ok (.if_icmp .ne 15, 3) := by decide +kernel
theorem dX5_keepsNotes_56 : decode cX5_keepsNotes 56 = .ok (.aload_n 0, 1) := by decide +kernel
theorem dX5_keepsNotes_57 : decode cX5_keepsNotes 57 = .ok (.aload_n 1, 1) := by decide +kernel
theorem dX5_keepsNotes_58 : decode cX5_keepsNotes 58 = .ok (.aload_n 3, 1) := by decide +kernel
theorem dX5_keepsNotes_59 : decode cX5_keepsNotes 59 = .ok (.iconst 1, 1) := by decide +kernel
theorem dX5_keepsNotes_60 : decode cX5_keepsNotes 60 = .ok (.invokevirtual 256, 3) := by decide +kernel
theorem dX5_keepsNotes_63 : decode cX5_keepsNotes 63 = .ok (.ifCond .ne 5, 3) := by decide +kernel
theorem dX5_keepsNotes_66 : decode cX5_keepsNotes 66 = .ok (.iconst 0, 1) := by decide +kernel
theorem dX5_keepsNotes_67 : decode cX5_keepsNotes 67 = .ok (.ireturn, 1) := by decide +kernel
theorem dX5_keepsNotes_68 : decode cX5_keepsNotes 68 = .ok (.iinc 2 1, 3) := by decide +kernel
theorem dX5_keepsNotes_71 : decode cX5_keepsNotes 71 = .ok (.goto (-64), 3) := by decide +kernel
theorem dX5_keepsNotes_74 : decode cX5_keepsNotes 74 = .ok (.iconst 1, 1) := by decide +kernel
theorem dX5_keepsNotes_75 : decode cX5_keepsNotes 75 = .ok (.ireturn, 1) := by decide +kernel
set_option maxRecDepth 20000 in
theorem ggX5_spanNotesBefore_X4_clear : GoodIn wsX5_spanNotesBefore wsX4_clear := goodIn_r _ [13, 14, 69, 70, 71] (by decide +kernel) (by decide +kernel)
set_option maxRecDepth 20000 in
theorem gX5_spanNotesBefore_X4_clear : GoodIn wsX5_spanNotesBefore (wsV RX5 260 RX4 yX4_clear wsX4_clear) := goodIn_app (goodIn_of _ (by decide +kernel)) ggX5_spanNotesBefore_X4_clear
set_option maxRecDepth 20000 in
theorem ggX5_spanNotesBefore_X4_add : GoodIn wsX5_spanNotesBefore wsX4_add := goodIn_r _ [18, 19, 20, 14, 21, 22, 23, 24, 12, 25, 26, 27, 28, 29, 30, 31, 32, 33, 34, 35, 36, 37, 38, 39, 40, 41, 42, 43, 44, 45, 46, 69, 70, 71] (by decide +kernel) (by decide +kernel)
set_option maxRecDepth 20000 in
theorem gX5_spanNotesBefore_X4_add : GoodIn wsX5_spanNotesBefore (wsV RX5 242 RX4 yX4_add wsX4_add) := goodIn_app (goodIn_of _ (by decide +kernel)) ggX5_spanNotesBefore_X4_add
theorem dX5_spanNotesBefore_0 : decode cX5_spanNotesBefore 0 = .ok (.aload_n 0, 1) := by decide +kernel
theorem dX5_spanNotesBefore_1 : decode cX5_spanNotesBefore 1 = .ok (.getfield 37, 3) := by decide +kernel
theorem dX5_spanNotesBefore_4 : decode cX5_spanNotesBefore 4 = .ok (.invokevirtual 260, 3) := by decide +kernel
theorem dX5_spanNotesBefore_7 : decode cX5_spanNotesBefore 7 = .ok (.iconst 0, 1) := by decide +kernel
theorem dX5_spanNotesBefore_8 : decode cX5_spanNotesBefore 8 = .ok (.istore_n 2, 1) := by decide +kernel
theorem dX5_spanNotesBefore_9 : decode cX5_spanNotesBefore 9 = .ok (.iload_n 2, 1) := by decide +kernel
theorem dX5_spanNotesBefore_10 : decode cX5_spanNotesBefore 10 = .ok (.aload_n 0, 1) := by decide +kernel
theorem dX5_spanNotesBefore_11 : decode cX5_spanNotesBefore 11 = .ok (.getfield 184, 3) := by decide +kernel
theorem dX5_spanNotesBefore_14 : decode cX5_spanNotesBefore 14 = .ok (.if_icmp .ge 42, 3) := by decide +kernel
theorem dX5_spanNotesBefore_17 : decode cX5_spanNotesBefore 17 = .ok (.aload_n 0, 1) := by decide +kernel
theorem dX5_spanNotesBefore_18 : decode cX5_spanNotesBefore 18 = .ok (.getfield 50, 3) := by decide +kernel
theorem dX5_spanNotesBefore_21 : decode cX5_spanNotesBefore 21 = .ok (.iload_n 2, 1) := by decide +kernel
theorem dX5_spanNotesBefore_22 : decode cX5_spanNotesBefore 22 = .ok (.aaload, 1) := by decide +kernel
theorem dX5_spanNotesBefore_23 : decode cX5_spanNotesBefore 23 = .ok (.getfield 200, 3) := by decide +kernel
theorem dX5_spanNotesBefore_26 : decode cX5_spanNotesBefore 26 = .ok (.aload_n 1, 1) := by decide +kernel
theorem dX5_spanNotesBefore_27 : decode cX5_spanNotesBefore 27 = .ok (.getfield 168, 3) := by decide +kernel
theorem dX5_spanNotesBefore_30 : decode cX5_spanNotesBefore 30 = .ok (.if_icmp .ne 20, 3) := by decide +kernel
theorem dX5_spanNotesBefore_33 : decode cX5_spanNotesBefore 33 = .ok (.aload_n 0, 1) := by decide +kernel
theorem dX5_spanNotesBefore_34 : decode cX5_spanNotesBefore 34 = .ok (.getfield 37, 3) := by decide +kernel
theorem dX5_spanNotesBefore_37 : decode cX5_spanNotesBefore 37 = .ok (.aload_n 0, 1) := by decide +kernel
theorem dX5_spanNotesBefore_38 : decode cX5_spanNotesBefore 38 = .ok (.getfield 50, 3) := by decide +kernel
theorem dX5_spanNotesBefore_41 : decode cX5_spanNotesBefore 41 = .ok (.iload_n 2, 1) := by decide +kernel
theorem dX5_spanNotesBefore_42 : decode cX5_spanNotesBefore 42 = .ok (.aaload, 1) := by decide +kernel
theorem dX5_spanNotesBefore_43 : decode cX5_spanNotesBefore 43 = .ok (.getfield 261, 3) := by decide +kernel
theorem dX5_spanNotesBefore_46 : decode cX5_spanNotesBefore 46 = .ok (.invokevirtual 242, 3) := by decide +kernel
theorem dX5_spanNotesBefore_49 : decode cX5_spanNotesBefore 49 = .ok (.pop, 1) := by decide +kernel
theorem dX5_spanNotesBefore_50 : decode cX5_spanNotesBefore 50 = .ok (.iinc 2 1, 3) := by decide +kernel
theorem dX5_spanNotesBefore_53 : decode cX5_spanNotesBefore 53 = .ok (.goto (-44), 3) := by decide +kernel
theorem dX5_spanNotesBefore_56 : decode cX5_spanNotesBefore 56 = .ok (.aload_n 1, 1) := by decide +kernel
theorem dX5_spanNotesBefore_57 : decode cX5_spanNotesBefore 57 = .ok (.getfield 232, 3) := by decide +kernel
theorem dX5_spanNotesBefore_60 : decode cX5_spanNotesBefore 60 = .ok (.iconst 3, 1) := by decide +kernel
theorem dX5_spanNotesBefore_61 : decode cX5_spanNotesBefore 61 = .ok (.if_icmp .ne 15, 3) := by decide +kernel
theorem dX5_spanNotesBefore_64 : decode cX5_spanNotesBefore 64 = .ok (.aload_n 0, 1) := by decide +kernel
theorem dX5_spanNotesBefore_65 : decode cX5_spanNotesBefore 65 = .ok (.getfield 37, 3) := by decide +kernel
theorem dX5_spanNotesBefore_68 : decode cX5_spanNotesBefore 68 = .ok (.aload_n 1, 1) := by decide +kernel
theorem dX5_spanNotesBefore_69 : decode cX5_spanNotesBefore 69 = .ok (.getfield 264, 3) := by decide +kernel
theorem dX5_spanNotesBefore_72 : decode cX5_spanNotesBefore 72 = .ok (.invokevirtual 242, 3) := by decide +kernel
theorem dX5_spanNotesBefore_75 : decode cX5_spanNotesBefore 75 = .ok (.pop, 1) := by decide +kernel
theorem dX5_spanNotesBefore_76 : decode cX5_spanNotesBefore 76 = .ok (.return_, 1) := by decide +kernel
set_option maxRecDepth 20000 in
theorem ggX5_followsBefore_X5_copy : GoodIn wsX5_followsBefore wsX5_copy := goodIn_r _ [7, 8, 9, 10, 11] (by decide +kernel) (by decide +kernel)
set_option maxRecDepth 20000 in
theorem gX5_followsBefore_X5_copy : GoodIn wsX5_followsBefore (va_wsS RX5 235 yX5_copy wsX5_copy) := goodIn_app (goodIn_of _ (by decide +kernel)) ggX5_followsBefore_X5_copy
set_option maxRecDepth 20000 in
theorem ggX5_followsBefore_X0_stepBack : GoodIn wsX5_followsBefore wsX0_stepBack := goodIn_r _ [16, 17, 18, 19, 20, 6, 21, 22, 23, 24, 25, 26, 27, 28, 29, 64, 65, 66, 67, 68] (by decide +kernel) (by decide +kernel)
set_option maxRecDepth 20000 in
theorem gX5_followsBefore_X0_stepBack : GoodIn wsX5_followsBefore (wsV RX5 265 RX0 yX0_stepBack wsX0_stepBack) := goodIn_app (goodIn_of _ (by decide +kernel)) ggX5_followsBefore_X0_stepBack
set_option maxRecDepth 20000 in
theorem ggX5_followsBefore_X4_contains : GoodIn wsX5_followsBefore wsX4_contains := goodIn_r _ [34, 35, 36, 37, 33, 38, 39, 40, 41, 42, 5, 6, 7, 8, 9, 10, 11, 20, 21, 22, 43, 44, 45, 46, 69, 70, 71] (by decide +kernel) (by decide +kernel)
set_option maxRecDepth 20000 in
theorem gX5_followsBefore_X4_contains : GoodIn wsX5_followsBefore (wsV RX5 268 RX4 yX4_contains wsX4_contains) := goodIn_app (goodIn_of _ (by decide +kernel)) ggX5_followsBefore_X4_contains
theorem dX5_followsBefore_0 : decode cX5_followsBefore 0 = .ok (.aload_n 2, 1) := by decide +kernel
theorem dX5_followsBefore_1 : decode cX5_followsBefore 1 = .ok (.getfield 261, 3) := by decide +kernel
theorem dX5_followsBefore_4 : decode cX5_followsBefore 4 = .ok (.aload_n 0, 1) := by decide +kernel
theorem dX5_followsBefore_5 : decode cX5_followsBefore 5 = .ok (.getfield 26, 3) := by decide +kernel
theorem dX5_followsBefore_8 : decode cX5_followsBefore 8 = .ok (.invokestatic 235, 3) := by decide +kernel
theorem dX5_followsBefore_11 : decode cX5_followsBefore 11 = .ok (.aload_n 1, 1) := by decide +kernel
theorem dX5_followsBefore_12 : decode cX5_followsBefore 12 = .ok (.aload_n 0, 1) := by decide +kernel
theorem dX5_followsBefore_13 : decode cX5_followsBefore 13 = .ok (.getfield 26, 3) := by decide +kernel
theorem dX5_followsBefore_16 : decode cX5_followsBefore 16 = .ok (.iload_n 3, 1) := by decide +kernel
theorem dX5_followsBefore_17 : decode cX5_followsBefore 17 = .ok (.invokevirtual 265, 3) := by decide +kernel
theorem dX5_followsBefore_20 : decode cX5_followsBefore 20 = .ok (.aload_n 0, 1) := by decide +kernel
theorem dX5_followsBefore_21 : decode cX5_followsBefore 21 = .ok (.getfield 37, 3) := by decide +kernel
theorem dX5_followsBefore_24 : decode cX5_followsBefore 24 = .ok (.aload_n 0, 1) := by decide +kernel
theorem dX5_followsBefore_25 : decode cX5_followsBefore 25 = .ok (.getfield 26, 3) := by decide +kernel
theorem dX5_followsBefore_28 : decode cX5_followsBefore 28 = .ok (.invokevirtual 268, 3) := by decide +kernel
theorem dX5_followsBefore_31 : decode cX5_followsBefore 31 = .ok (.ireturn, 1) := by decide +kernel
set_option maxRecDepth 20000 in
theorem ggX5_number_J9_floorMod_7cf53 : GoodIn wsX5_number wsJ9_floorMod_7cf53 := goodIn_r _ [5] (by decide +kernel) (by decide +kernel)
set_option maxRecDepth 20000 in
theorem gX5_number_J9_floorMod_7cf53 : GoodIn wsX5_number (va_wsS RX5 272 yJ9_floorMod_7cf53 wsJ9_floorMod_7cf53) := goodIn_app (goodIn_of _ (by decide +kernel)) ggX5_number_J9_floorMod_7cf53
theorem dX5_number_0 : decode cX5_number 0 = .ok (.iload_n 0, 1) := by decide +kernel
theorem dX5_number_1 : decode cX5_number 1 = .ok (.ldc_w 271, 3) := by decide +kernel
theorem dX5_number_4 : decode cX5_number 4 = .ok (.invokestatic 272, 3) := by decide +kernel
theorem dX5_number_7 : decode cX5_number 7 = .ok (.ireturn, 1) := by decide +kernel
theorem dX5_valueOf_0 : decode cX5_valueOf 0 = .ok (.lconst 0, 1) := by decide +kernel
theorem dX5_valueOf_1 : decode cX5_valueOf 1 = .ok (.lstore_n 2, 1) := by decide +kernel
theorem dX5_valueOf_2 : decode cX5_valueOf 2 = .ok (.iconst 0, 1) := by decide +kernel
theorem dX5_valueOf_3 : decode cX5_valueOf 3 = .ok (.istore 4, 2) := by decide +kernel
theorem dX5_valueOf_5 : decode cX5_valueOf 5 = .ok (.iload 4, 2) := by decide +kernel
theorem dX5_valueOf_7 : decode cX5_valueOf 7 = .ok (.aload_n 0, 1) := by decide +kernel
theorem dX5_valueOf_8 : decode cX5_valueOf 8 = .ok (.arraylength, 1) := by decide +kernel
theorem dX5_valueOf_9 : decode cX5_valueOf 9 = .ok (.if_icmp .ge 23, 3) := by decide +kernel
theorem dX5_valueOf_12 : decode cX5_valueOf 12 = .ok (.lload_n 2, 1) := by decide +kernel
theorem dX5_valueOf_13 : decode cX5_valueOf 13 = .ok (.aload_n 0, 1) := by decide +kernel
theorem dX5_valueOf_14 : decode cX5_valueOf 14 = .ok (.iload 4, 2) := by decide +kernel
theorem dX5_valueOf_16 : decode cX5_valueOf 16 = .ok (.iaload, 1) := by decide +kernel
theorem dX5_valueOf_17 : decode cX5_valueOf 17 = .ok (.i2l, 1) := by decide +kernel
theorem dX5_valueOf_18 : decode cX5_valueOf 18 = .ok (.aload_n 1, 1) := by decide +kernel
theorem dX5_valueOf_19 : decode cX5_valueOf 19 = .ok (.iload 4, 2) := by decide +kernel
theorem dX5_valueOf_21 : decode cX5_valueOf 21 = .ok (.iaload, 1) := by decide +kernel
theorem dX5_valueOf_22 : decode cX5_valueOf 22 = .ok (.i2l, 1) := by decide +kernel
theorem dX5_valueOf_23 : decode cX5_valueOf 23 = .ok (.lmul, 1) := by decide +kernel
theorem dX5_valueOf_24 : decode cX5_valueOf 24 = .ok (.ladd, 1) := by decide +kernel
theorem dX5_valueOf_25 : decode cX5_valueOf 25 = .ok (.lstore_n 2, 1) := by decide +kernel
theorem dX5_valueOf_26 : decode cX5_valueOf 26 = .ok (.iinc 4 1, 3) := by decide +kernel
theorem dX5_valueOf_29 : decode cX5_valueOf 29 = .ok (.goto (-24), 3) := by decide +kernel
theorem dX5_valueOf_32 : decode cX5_valueOf 32 = .ok (.lload_n 2, 1) := by decide +kernel
theorem dX5_valueOf_33 : decode cX5_valueOf 33 = .ok (.ldc2_w 275, 3) := by decide +kernel
theorem dX5_valueOf_36 : decode cX5_valueOf 36 = .ok (.lrem, 1) := by decide +kernel
theorem dX5_valueOf_37 : decode cX5_valueOf 37 = .ok (.l2i, 1) := by decide +kernel
theorem dX5_valueOf_38 : decode cX5_valueOf 38 = .ok (.ireturn, 1) := by decide +kernel
theorem dX5_addMultiple_0 : decode cX5_addMultiple 0 = .ok (.iconst 0, 1) := by decide +kernel
theorem dX5_addMultiple_1 : decode cX5_addMultiple 1 = .ok (.istore_n 3, 1) := by decide +kernel
theorem dX5_addMultiple_2 : decode cX5_addMultiple 2 = .ok (.iload_n 3, 1) := by decide +kernel
theorem dX5_addMultiple_3 : decode cX5_addMultiple 3 = .ok (.aload_n 0, 1) := by decide +kernel
theorem dX5_addMultiple_4 : decode cX5_addMultiple 4 = .ok (.arraylength, 1) := by decide +kernel
theorem dX5_addMultiple_5 : decode cX5_addMultiple 5 = .ok (.if_icmp .ge 29, 3) := by decide +kernel
theorem dX5_addMultiple_8 : decode cX5_addMultiple 8 = .ok (.aload_n 0, 1) := by decide +kernel
theorem dX5_addMultiple_9 : decode cX5_addMultiple 9 = .ok (.iload_n 3, 1) := by decide +kernel
theorem dX5_addMultiple_10 : decode cX5_addMultiple 10 = .ok (.aload_n 0, 1) := by decide +kernel
theorem dX5_addMultiple_11 : decode cX5_addMultiple 11 = .ok (.iload_n 3, 1) := by decide +kernel
theorem dX5_addMultiple_12 : decode cX5_addMultiple 12 = .ok (.iaload, 1) := by decide +kernel
theorem dX5_addMultiple_13 : decode cX5_addMultiple 13 = .ok (.i2l, 1) := by decide +kernel
theorem dX5_addMultiple_14 : decode cX5_addMultiple 14 = .ok (.iload_n 1, 1) := by decide +kernel
theorem dX5_addMultiple_15 : decode cX5_addMultiple 15 = .ok (.i2l, 1) := by decide +kernel
theorem dX5_addMultiple_16 : decode cX5_addMultiple 16 = .ok (.aload_n 2, 1) := by decide +kernel
theorem dX5_addMultiple_17 : decode cX5_addMultiple 17 = .ok (.iload_n 3, 1) := by decide +kernel
theorem dX5_addMultiple_18 : decode cX5_addMultiple 18 = .ok (.iaload, 1) := by decide +kernel
theorem dX5_addMultiple_19 : decode cX5_addMultiple 19 = .ok (.i2l, 1) := by decide +kernel
theorem dX5_addMultiple_20 : decode cX5_addMultiple 20 = .ok (.lmul, 1) := by decide +kernel
theorem dX5_addMultiple_21 : decode cX5_addMultiple 21 = .ok (.ladd, 1) := by decide +kernel
theorem dX5_addMultiple_22 : decode cX5_addMultiple 22 = .ok (.ldc2_w 275, 3) := by decide +kernel
theorem dX5_addMultiple_25 : decode cX5_addMultiple 25 = .ok (.lrem, 1) := by decide +kernel
theorem dX5_addMultiple_26 : decode cX5_addMultiple 26 = .ok (.l2i, 1) := by decide +kernel
theorem dX5_addMultiple_27 : decode cX5_addMultiple 27 = .ok (.iastore, 1) := by decide +kernel
theorem dX5_addMultiple_28 : decode cX5_addMultiple 28 = .ok (.iinc 3 1, 3) := by decide +kernel
theorem dX5_addMultiple_31 : decode cX5_addMultiple 31 = .ok (.goto (-29), 3) := by decide +kernel
theorem dX5_addMultiple_34 : decode cX5_addMultiple 34 = .ok (.return_, 1) := by decide +kernel
theorem dX5_copy_0 : decode cX5_copy 0 = .ok (.aload_n 0, 1) := by decide +kernel
theorem dX5_copy_1 : decode cX5_copy 1 = .ok (.iconst 0, 1) := by decide +kernel
theorem dX5_copy_2 : decode cX5_copy 2 = .ok (.aload_n 1, 1) := by decide +kernel
theorem dX5_copy_3 : decode cX5_copy 3 = .ok (.iconst 0, 1) := by decide +kernel
theorem dX5_copy_4 : decode cX5_copy 4 = .ok (.aload_n 1, 1) := by decide +kernel
theorem dX5_copy_5 : decode cX5_copy 5 = .ok (.arraylength, 1) := by decide +kernel
theorem dX5_copy_6 : decode cX5_copy 6 = .ok (.invokestatic 277, 3) := by decide +kernel
theorem dX5_copy_9 : decode cX5_copy 9 = .ok (.return_, 1) := by decide +kernel
theorem dX5_inverse_0 : decode cX5_inverse 0 = .ok (.lconst 1, 1) := by decide +kernel
theorem dX5_inverse_1 : decode cX5_inverse 1 = .ok (.lstore_n 1, 1) := by decide +kernel
theorem dX5_inverse_2 : decode cX5_inverse 2 = .ok (.iload_n 0, 1) := by decide +kernel
theorem dX5_inverse_3 : decode cX5_inverse 3 = .ok (.i2l, 1) := by decide +kernel
theorem dX5_inverse_4 : decode cX5_inverse 4 = .ok (.lstore_n 3, 1) := by decide +kernel
theorem dX5_inverse_5 : decode cX5_inverse 5 = .ok (.ldc_w 283, 3) := by decide +kernel
theorem dX5_inverse_8 : decode cX5_inverse 8 = .ok (.istore 5, 2) := by decide +kernel
theorem dX5_inverse_10 : decode cX5_inverse 10 = .ok (.iload 5, 2) := by decide +kernel
theorem dX5_inverse_12 : decode cX5_inverse 12 = .ok (.ifCond .le 36, 3) := by decide +kernel
theorem dX5_inverse_15 : decode cX5_inverse 15 = .ok (.iload 5, 2) := by decide +kernel
theorem dX5_inverse_17 : decode cX5_inverse 17 = .ok (.iconst 1, 1) := by decide +kernel
theorem dX5_inverse_18 : decode cX5_inverse 18 = .ok (.iand, 1) := by decide +kernel
theorem dX5_inverse_19 : decode cX5_inverse 19 = .ok (.iconst 1, 1) := by decide +kernel
theorem dX5_inverse_20 : decode cX5_inverse 20 = .ok (.if_icmp .ne 11, 3) := by decide +kernel
theorem dX5_inverse_23 : decode cX5_inverse 23 = .ok (.lload_n 1, 1) := by decide +kernel
theorem dX5_inverse_24 : decode cX5_inverse 24 = .ok (.lload_n 3, 1) := by decide +kernel
theorem dX5_inverse_25 : decode cX5_inverse 25 = .ok (.lmul, 1) := by decide +kernel
theorem dX5_inverse_26 : decode cX5_inverse 26 = .ok (.ldc2_w 275, 3) := by decide +kernel
theorem dX5_inverse_29 : decode cX5_inverse 29 = .ok (.lrem, 1) := by decide +kernel
theorem dX5_inverse_30 : decode cX5_inverse 30 = .ok (.lstore_n 1, 1) := by decide +kernel
theorem dX5_inverse_31 : decode cX5_inverse 31 = .ok (.lload_n 3, 1) := by decide +kernel
theorem dX5_inverse_32 : decode cX5_inverse 32 = .ok (.lload_n 3, 1) := by decide +kernel
theorem dX5_inverse_33 : decode cX5_inverse 33 = .ok (.lmul, 1) := by decide +kernel
theorem dX5_inverse_34 : decode cX5_inverse 34 = .ok (.ldc2_w 275, 3) := by decide +kernel
theorem dX5_inverse_37 : decode cX5_inverse 37 = .ok (.lrem, 1) := by decide +kernel
theorem dX5_inverse_38 : decode cX5_inverse 38 = .ok (.lstore_n 3, 1) := by decide +kernel
theorem dX5_inverse_39 : decode cX5_inverse 39 = .ok (.iload 5, 2) := by decide +kernel
theorem dX5_inverse_41 : decode cX5_inverse 41 = .ok (.iconst 1, 1) := by decide +kernel
theorem dX5_inverse_42 : decode cX5_inverse 42 = .ok (.ishr, 1) := by decide +kernel
theorem dX5_inverse_43 : decode cX5_inverse 43 = .ok (.istore 5, 2) := by decide +kernel
theorem dX5_inverse_45 : decode cX5_inverse 45 = .ok (.goto (-35), 3) := by decide +kernel
theorem dX5_inverse_48 : decode cX5_inverse 48 = .ok (.lload_n 1, 1) := by decide +kernel
theorem dX5_inverse_49 : decode cX5_inverse 49 = .ok (.l2i, 1) := by decide +kernel
theorem dX5_inverse_50 : decode cX5_inverse 50 = .ok (.ireturn, 1) := by decide +kernel
theorem dX6_init_0 : decode cX6_init 0 = .ok (.aload_n 0, 1) := by decide +kernel
theorem dX6_init_1 : decode cX6_init 1 = .ok (.invokespecial 1, 3) := by decide +kernel
theorem dX6_init_4 : decode cX6_init 4 = .ok (.aload_n 0, 1) := by decide +kernel
theorem dX6_init_5 : decode cX6_init 5 = .ok (.iconst 5, 1) := by decide +kernel
theorem dX6_init_6 : decode cX6_init 6 = .ok (.newarray .int, 2) := by decide +kernel
theorem dX6_init_8 : decode cX6_init 8 = .ok (.putfield 7, 3) := by decide +kernel
theorem dX6_init_11 : decode cX6_init 11 = .ok (.aload_n 0, 1) := by decide +kernel
theorem dX6_init_12 : decode cX6_init 12 = .ok (.bipush 20, 2) := by decide +kernel
theorem dX6_init_14 : decode cX6_init 14 = .ok (.newarray .int, 2) := by decide +kernel
theorem dX6_init_16 : decode cX6_init 16 = .ok (.putfield 13, 3) := by decide +kernel
theorem dX6_init_19 : decode cX6_init 19 = .ok (.aload_n 0, 1) := by decide +kernel
theorem dX6_init_20 : decode cX6_init 20 = .ok (.bipush 20, 2) := by decide +kernel
theorem dX6_init_22 : decode cX6_init 22 = .ok (.newarray .int, 2) := by decide +kernel
theorem dX6_init_24 : decode cX6_init 24 = .ok (.putfield 16, 3) := by decide +kernel
theorem dX6_init_27 : decode cX6_init 27 = .ok (.aload_n 0, 1) := by decide +kernel
theorem dX6_init_28 : decode cX6_init 28 = .ok (.bipush 20, 2) := by decide +kernel
theorem dX6_init_30 : decode cX6_init 30 = .ok (.newarray .int, 2) := by decide +kernel
theorem dX6_init_32 : decode cX6_init 32 = .ok (.putfield 19, 3) := by decide +kernel
theorem dX6_init_35 : decode cX6_init 35 = .ok (.aload_n 0, 1) := by decide +kernel
theorem dX6_init_36 : decode cX6_init 36 = .ok (.bipush 20, 2) := by decide +kernel
theorem dX6_init_38 : decode cX6_init 38 = .ok (.newarray .int, 2) := by decide +kernel
theorem dX6_init_40 : decode cX6_init 40 = .ok (.putfield 22, 3) := by decide +kernel
theorem dX6_init_43 : decode cX6_init 43 = .ok (.aload_n 0, 1) := by decide +kernel
theorem dX6_init_44 : decode cX6_init 44 = .ok (.bipush 100, 2) := by decide +kernel
theorem dX6_init_46 : decode cX6_init 46 = .ok (.newarray .int, 2) := by decide +kernel
theorem dX6_init_48 : decode cX6_init 48 = .ok (.putfield 25, 3) := by decide +kernel
theorem dX6_init_51 : decode cX6_init 51 = .ok (.aload_n 0, 1) := by decide +kernel
theorem dX6_init_52 : decode cX6_init 52 = .ok (.bipush 8, 2) := by decide +kernel
theorem dX6_init_54 : decode cX6_init 54 = .ok (.newarray .int, 2) := by decide +kernel
theorem dX6_init_56 : decode cX6_init 56 = .ok (.putfield 28, 3) := by decide +kernel
theorem dX6_init_59 : decode cX6_init 59 = .ok (.aload_n 0, 1) := by decide +kernel
theorem dX6_init_60 : decode cX6_init 60 = .ok (.sipush 200, 3) := by decide +kernel
theorem dX6_init_63 : decode cX6_init 63 = .ok (.newarray .int, 2) := by decide +kernel
theorem dX6_init_65 : decode cX6_init 65 = .ok (.putfield 31, 3) := by decide +kernel
theorem dX6_init_68 : decode cX6_init 68 = .ok (.aload_n 0, 1) := by decide +kernel
theorem dX6_init_69 : decode cX6_init 69 = .ok (.bipush 40, 2) := by decide +kernel
theorem dX6_init_71 : decode cX6_init 71 = .ok (.newarray .int, 2) := by decide +kernel
theorem dX6_init_73 : decode cX6_init 73 = .ok (.putfield 34, 3) := by decide +kernel
theorem dX6_init_76 : decode cX6_init 76 = .ok (.aload_n 0, 1) := by decide +kernel
theorem dX6_init_77 : decode cX6_init 77 = .ok (.bipush 41, 2) := by decide +kernel
theorem dX6_init_79 : decode cX6_init 79 = .ok (.newarray .int, 2) := by decide +kernel
theorem dX6_init_81 : decode cX6_init 81 = .ok (.putfield 37, 3) := by decide +kernel
theorem dX6_init_84 : decode cX6_init 84 = .ok (.aload_n 0, 1) := by decide +kernel
theorem dX6_init_85 : decode cX6_init 85 = .ok (.bipush 41, 2) := by decide +kernel
theorem dX6_init_87 : decode cX6_init 87 = .ok (.newarray .int, 2) := by decide +kernel
theorem dX6_init_89 : decode cX6_init 89 = .ok (.putfield 40, 3) := by decide +kernel
theorem dX6_init_92 : decode cX6_init 92 = .ok (.aload_n 0, 1) := by decide +kernel
theorem dX6_init_93 : decode cX6_init 93 = .ok (.bipush 8, 2) := by decide +kernel
theorem dX6_init_95 : decode cX6_init 95 = .ok (.newarray .int, 2) := by decide +kernel
theorem dX6_init_97 : decode cX6_init 97 = .ok (.putfield 43, 3) := by decide +kernel
theorem dX6_init_100 : decode cX6_init 100 = .ok (.aload_n 0, 1) := by decide +kernel
theorem dX6_init_101 : decode cX6_init 101 = .ok (.sipush 200, 3) := by decide +kernel
theorem dX6_init_104 : decode cX6_init 104 = .ok (.newarray .int, 2) := by decide +kernel
theorem dX6_init_106 : decode cX6_init 106 = .ok (.putfield 46, 3) := by decide +kernel
theorem dX6_init_109 : decode cX6_init 109 = .ok (.aload_n 0, 1) := by decide +kernel
theorem dX6_init_110 : decode cX6_init 110 = .ok (.iconst 5, 1) := by decide +kernel
theorem dX6_init_111 : decode cX6_init 111 = .ok (.newarray .int, 2) := by decide +kernel
theorem dX6_init_113 : decode cX6_init 113 = .ok (.dup, 1) := by decide +kernel
theorem dX6_init_114 : decode cX6_init 114 = .ok (.iconst 0, 1) := by decide +kernel
theorem dX6_init_115 : decode cX6_init 115 = .ok (.iconst 1, 1) := by decide +kernel
theorem dX6_init_116 : decode cX6_init 116 = .ok (.iastore, 1) := by decide +kernel
theorem dX6_init_117 : decode cX6_init 117 = .ok (.dup, 1) := by decide +kernel
theorem dX6_init_118 : decode cX6_init 118 = .ok (.iconst 1, 1) := by decide +kernel
theorem dX6_init_119 : decode cX6_init 119 = .ok (.iconst 0, 1) := by decide +kernel
theorem dX6_init_120 : decode cX6_init 120 = .ok (.iastore, 1) := by decide +kernel
theorem dX6_init_121 : decode cX6_init 121 = .ok (.dup, 1) := by decide +kernel
theorem dX6_init_122 : decode cX6_init 122 = .ok (.iconst 2, 1) := by decide +kernel
theorem dX6_init_123 : decode cX6_init 123 = .ok (.iconst 0, 1) := by decide +kernel
theorem dX6_init_124 : decode cX6_init 124 = .ok (.iastore, 1) := by decide +kernel
theorem dX6_init_125 : decode cX6_init 125 = .ok (.dup, 1) := by decide +kernel
theorem dX6_init_126 : decode cX6_init 126 = .ok (.iconst 3, 1) := by decide +kernel
theorem dX6_init_127 : decode cX6_init 127 = .ok (.iconst 0, 1) := by decide +kernel
theorem dX6_init_128 : decode cX6_init 128 = .ok (.iastore, 1) := by decide +kernel
theorem dX6_init_129 : decode cX6_init 129 = .ok (.dup, 1) := by decide +kernel
theorem dX6_init_130 : decode cX6_init 130 = .ok (.iconst 4, 1) := by decide +kernel
theorem dX6_init_131 : decode cX6_init 131 = .ok (.iconst 0, 1) := by decide +kernel
theorem dX6_init_132 : decode cX6_init 132 = .ok (.iastore, 1) := by decide +kernel
theorem dX6_init_133 : decode cX6_init 133 = .ok (.putfield 49, 3) := by decide +kernel
theorem dX6_init_136 : decode cX6_init 136 = .ok (.aload_n 0, 1) := by decide +kernel
theorem dX6_init_137 : decode cX6_init 137 = .ok (.bipush 24, 2) := by decide +kernel
theorem dX6_init_139 : decode cX6_init 139 = .ok (.newarray .int, 2) := by decide +kernel
theorem dX6_init_141 : decode cX6_init 141 = .ok (.putfield 52, 3) := by decide +kernel
theorem dX6_init_144 : decode cX6_init 144 = .ok (.aload_n 0, 1) := by decide +kernel
theorem dX6_init_145 : decode cX6_init 145 = .ok (.bipush 120, 2) := by decide +kernel
theorem dX6_init_147 : decode cX6_init 147 = .ok (.newarray .int, 2) := by decide +kernel
theorem dX6_init_149 : decode cX6_init 149 = .ok (.putfield 55, 3) := by decide +kernel
theorem dX6_init_152 : decode cX6_init 152 = .ok (.aload_n 0, 1) := by decide +kernel
theorem dX6_init_153 : decode cX6_init 153 = .ok (.sipush 150, 3) := by decide +kernel
theorem dX6_init_156 : decode cX6_init 156 = .ok (.newarray .int, 2) := by decide +kernel
theorem dX6_init_158 : decode cX6_init 158 = .ok (.putfield 58, 3) := by decide +kernel
theorem dX6_init_161 : decode cX6_init 161 = .ok (.aload_n 0, 1) := by decide +kernel
theorem dX6_init_162 : decode cX6_init 162 = .ok (.iconst 5, 1) := by decide +kernel
theorem dX6_init_163 : decode cX6_init 163 = .ok (.newarray .int, 2) := by decide +kernel
theorem dX6_init_165 : decode cX6_init 165 = .ok (.putfield 61, 3) := by decide +kernel
theorem dX6_init_168 : decode cX6_init 168 = .ok (.aload_n 0, 1) := by decide +kernel
theorem dX6_init_169 : decode cX6_init 169 = .ok (.iconst 5, 1) := by decide +kernel
theorem dX6_init_170 : decode cX6_init 170 = .ok (.newarray .int, 2) := by decide +kernel
theorem dX6_init_172 : decode cX6_init 172 = .ok (.putfield 64, 3) := by decide +kernel
theorem dX6_init_175 : decode cX6_init 175 = .ok (.aload_n 0, 1) := by decide +kernel
theorem dX6_init_176 : decode cX6_init 176 = .ok (.iload_n 1, 1) := by decide +kernel
theorem dX6_init_177 : decode cX6_init 177 = .ok (.iconst 1, 1) := by decide +kernel
theorem dX6_init_178 : decode cX6_init 178 = .ok (.if_icmp .ge 7, 3) := by decide +kernel
theorem dX6_init_181 : decode cX6_init 181 = .ok (.iconst 1, 1) := by decide +kernel
theorem dX6_init_182 : decode cX6_init 182 = .ok (.goto 15, 3) := by decide +kernel
theorem dX6_init_185 : decode cX6_init 185 = .ok (.iload_n 1, 1) := by decide +kernel
theorem dX6_init_186 : decode cX6_init 186 = .ok (.bipush 8, 2) := by decide +kernel
theorem dX6_init_188 : decode cX6_init 188 = .ok (.if_icmp .le 8, 3) := by decide +kernel
theorem dX6_init_191 : decode cX6_init 191 = .ok (.bipush 8, 2) := by decide +kernel
theorem dX6_init_193 : decode cX6_init 193 = .ok (.goto 4, 3) := by decide +kernel
theorem dX6_init_196 : decode cX6_init 196 = .ok (.iload_n 1, 1) := by decide +kernel
theorem dX6_init_197 : decode cX6_init 197 = .ok (.putfield 67, 3) := by decide +kernel
theorem dX6_init_200 : decode cX6_init 200 = .ok (.aload_n 0, 1) := by decide +kernel
theorem dX6_init_201 : decode cX6_init 201 = .ok (.iload_n 2, 1) := by decide +kernel
theorem dX6_init_202 : decode cX6_init 202 = .ok (.iconst 1, 1) := by decide +kernel
theorem dX6_init_203 : decode cX6_init 203 = .ok (.if_icmp .ge 7, 3) := by decide +kernel
theorem dX6_init_206 : decode cX6_init 206 = .ok (.iconst 1, 1) := by decide +kernel
theorem dX6_init_207 : decode cX6_init 207 = .ok (.goto 13, 3) := by decide +kernel
theorem dX6_init_210 : decode cX6_init 210 = .ok (.iload_n 2, 1) := by decide +kernel
theorem dX6_init_211 : decode cX6_init 211 = .ok (.iconst 4, 1) := by decide +kernel
theorem dX6_init_212 : decode cX6_init 212 = .ok (.if_icmp .le 7, 3) := by decide +kernel
theorem dX6_init_215 : decode cX6_init 215 = .ok (.iconst 4, 1) := by decide +kernel
theorem dX6_init_216 : decode cX6_init 216 = .ok (.goto 4, 3) := by decide +kernel
theorem dX6_init_219 : decode cX6_init 219 = .ok (.iload_n 2, 1) := by decide +kernel
theorem dX6_init_220 : decode cX6_init 220 = .ok (.putfield 71, 3) := by decide +kernel
theorem dX6_init_223 : decode cX6_init 223 = .ok (.return_, 1) := by decide +kernel
theorem dX6_thrown_0 : decode cX6_thrown 0 = .ok (.aload_n 0, 1) := by decide +kernel
theorem dX6_thrown_1 : decode cX6_thrown 1 = .ok (.getfield 74, 3) := by decide +kernel
theorem dX6_thrown_4 : decode cX6_thrown 4 = .ok (.ireturn, 1) := by decide +kernel
theorem dX6_mod_0 : decode cX6_mod 0 = .ok (.lload_n 0, 1) := by decide +kernel
theorem dX6_mod_1 : decode cX6_mod 1 = .ok (.ldc2_w 77, 3) := by decide +kernel
theorem dX6_mod_4 : decode cX6_mod 4 = .ok (.lrem, 1) := by decide +kernel
theorem dX6_mod_5 : decode cX6_mod 5 = .ok (.lstore_n 2, 1) := by decide +kernel
theorem dX6_mod_6 : decode cX6_mod 6 = .ok (.lload_n 2, 1) := by decide +kernel
theorem dX6_mod_7 : decode cX6_mod 7 = .ok (.lconst 0, 1) := by decide +kernel
theorem dX6_mod_8 : decode cX6_mod 8 = .ok (.lcmp, 1) := by decide +kernel
theorem dX6_mod_9 : decode cX6_mod 9 = .ok (.ifCond .ge 11, 3) := by decide +kernel
theorem dX6_mod_12 : decode cX6_mod 12 = .ok (.lload_n 2, 1) := by decide +kernel
theorem dX6_mod_13 : decode cX6_mod 13 = .ok (.ldc2_w 77, 3) := by decide +kernel
theorem dX6_mod_16 : decode cX6_mod 16 = .ok (.ladd, 1) := by decide +kernel
theorem dX6_mod_17 : decode cX6_mod 17 = .ok (.goto 4, 3) := by decide +kernel
theorem dX6_mod_20 : decode cX6_mod 20 = .ok (.lload_n 2, 1) := by decide +kernel
theorem dX6_mod_21 : decode cX6_mod 21 = .ok (.l2i, 1) := by decide +kernel
theorem dX6_mod_22 : decode cX6_mod 22 = .ok (.ireturn, 1) := by decide +kernel
set_option maxRecDepth 20000 in
theorem ggX6_inverse_X6_mod : GoodIn wsX6_inverse wsX6_mod := goodIn_r _ [5, 6] (by decide +kernel) (by decide +kernel)
set_option maxRecDepth 20000 in
theorem gX6_inverse_X6_mod : GoodIn wsX6_inverse (va_wsS RX6 80 yX6_mod wsX6_mod) := goodIn_app (goodIn_of _ (by decide +kernel)) ggX6_inverse_X6_mod
theorem dX6_inverse_0 : decode cX6_inverse 0 = .ok (.lconst 1, 1) := by decide +kernel
theorem dX6_inverse_1 : decode cX6_inverse 1 = .ok (.lstore_n 1, 1) := by decide +kernel
theorem dX6_inverse_2 : decode cX6_inverse 2 = .ok (.lconst 0, 1) := by decide +kernel
theorem dX6_inverse_3 : decode cX6_inverse 3 = .ok (.lstore_n 3, 1) := by decide +kernel
theorem dX6_inverse_4 : decode cX6_inverse 4 = .ok (.iload_n 0, 1) := by decide +kernel
theorem dX6_inverse_5 : decode cX6_inverse 5 = .ok (.istore 5, 2) := by decide +kernel
theorem dX6_inverse_7 : decode cX6_inverse 7 = .ok (.ldc 79, 2) := by decide +kernel
theorem dX6_inverse_9 : decode cX6_inverse 9 = .ok (.istore 6, 2) := by decide +kernel
theorem dX6_inverse_11 : decode cX6_inverse 11 = .ok (.iload 5, 2) := by decide +kernel
theorem dX6_inverse_13 : decode cX6_inverse 13 = .ok (.iconst 1, 1) := by decide +kernel
theorem dX6_inverse_14 : decode cX6_inverse 14 = .ok (.if_icmp .eq 42, 3) := by decide +kernel
theorem dX6_inverse_17 : decode cX6_inverse 17 = .ok (.iload 6, 2) := by decide +kernel
theorem dX6_inverse_19 : decode cX6_inverse 19 = .ok (.iload 5, 2) := by decide +kernel
theorem dX6_inverse_21 : decode cX6_inverse 21 = .ok (.idiv, 1) := by decide +kernel
theorem dX6_inverse_22 : decode cX6_inverse 22 = .ok (.istore 7, 2) := by decide +kernel
theorem dX6_inverse_24 : decode cX6_inverse 24 = .ok (.iload 6, 2) := by decide +kernel
theorem dX6_inverse_26 : decode cX6_inverse 26 = .ok (.iload 5, 2) := by decide +kernel
theorem dX6_inverse_28 : decode cX6_inverse 28 = .ok (.irem, 1) := by decide +kernel
theorem dX6_inverse_29 : decode cX6_inverse 29 = .ok (.istore 8, 2) := by decide +kernel
theorem dX6_inverse_31 : decode cX6_inverse 31 = .ok (.lload_n 3, 1) := by decide +kernel
theorem dX6_inverse_32 : decode cX6_inverse 32 = .ok (.iload 7, 2) := by decide +kernel
theorem dX6_inverse_34 : decode cX6_inverse 34 = .ok (.i2l, 1) := by decide +kernel
theorem dX6_inverse_35 : decode cX6_inverse 35 = .ok (.lload_n 1, 1) := by decide +kernel
theorem dX6_inverse_36 : decode cX6_inverse 36 = .ok (.lmul, 1) := by decide +kernel
theorem dX6_inverse_37 : decode cX6_inverse 37 = .ok (.lsub, 1) := by decide +kernel
theorem dX6_inverse_38 : decode cX6_inverse 38 = .ok (.lstore 9, 2) := by decide +kernel
theorem dX6_inverse_40 : decode cX6_inverse 40 = .ok (.iload 5, 2) := by decide +kernel
theorem dX6_inverse_42 : decode cX6_inverse 42 = .ok (.istore 6, 2) := by decide +kernel
theorem dX6_inverse_44 : decode cX6_inverse 44 = .ok (.iload 8, 2) := by decide +kernel
theorem dX6_inverse_46 : decode cX6_inverse 46 = .ok (.istore 5, 2) := by decide +kernel
theorem dX6_inverse_48 : decode cX6_inverse 48 = .ok (.lload_n 1, 1) := by decide +kernel
theorem dX6_inverse_49 : decode cX6_inverse 49 = .ok (.lstore_n 3, 1) := by decide +kernel
theorem dX6_inverse_50 : decode cX6_inverse 50 = .ok (.lload 9, 2) := by decide +kernel
theorem dX6_inverse_52 : decode cX6_inverse 52 = .ok (.lstore_n 1, 1) := by decide +kernel
theorem dX6_inverse_53 : decode cX6_inverse 53 = .ok (.goto (-42), 3) := by decide +kernel
theorem dX6_inverse_56 : decode cX6_inverse 56 = .ok (.lload_n 1, 1) := by decide +kernel
theorem dX6_inverse_57 : decode cX6_inverse 57 = .ok (.invokestatic 80, 3) := by decide +kernel
theorem dX6_inverse_60 : decode cX6_inverse 60 = .ok (.ireturn, 1) := by decide +kernel
theorem dX6_put_0 : decode cX6_put 0 = .ok (.aload_n 0, 1) := by decide +kernel
theorem dX6_put_1 : decode cX6_put 1 = .ok (.getfield 58, 3) := by decide +kernel
theorem dX6_put_4 : decode cX6_put 4 = .ok (.iconst 5, 1) := by decide +kernel
theorem dX6_put_5 : decode cX6_put 5 = .ok (.aload_n 0, 1) := by decide +kernel
theorem dX6_put_6 : decode cX6_put 6 = .ok (.getfield 84, 3) := by decide +kernel
theorem dX6_put_9 : decode cX6_put 9 = .ok (.imul, 1) := by decide +kernel
theorem dX6_put_10 : decode cX6_put 10 = .ok (.iload_n 1, 1) := by decide +kernel
theorem dX6_put_11 : decode cX6_put 11 = .ok (.iadd, 1) := by decide +kernel
theorem dX6_put_12 : decode cX6_put 12 = .ok (.iload_n 2, 1) := by decide +kernel
theorem dX6_put_13 : decode cX6_put 13 = .ok (.iastore, 1) := by decide +kernel
theorem dX6_put_14 : decode cX6_put 14 = .ok (.return_, 1) := by decide +kernel
set_option maxRecDepth 20000 in
theorem ggX6_minus_X6_mod : GoodIn wsX6_minus wsX6_mod := goodIn_r _ [5, 6] (by decide +kernel) (by decide +kernel)
set_option maxRecDepth 20000 in
theorem gX6_minus_X6_mod : GoodIn wsX6_minus (va_wsS RX6 80 yX6_mod wsX6_mod) := goodIn_app (goodIn_of _ (by decide +kernel)) ggX6_minus_X6_mod
theorem dX6_minus_0 : decode cX6_minus 0 = .ok (.iconst 0, 1) := by decide +kernel
theorem dX6_minus_1 : decode cX6_minus 1 = .ok (.istore 4, 2) := by decide +kernel
theorem dX6_minus_3 : decode cX6_minus 3 = .ok (.iload 4, 2) := by decide +kernel
theorem dX6_minus_5 : decode cX6_minus 5 = .ok (.iconst 5, 1) := by decide +kernel
theorem dX6_minus_6 : decode cX6_minus 6 = .ok (.if_icmp .ge 51, 3) := by decide +kernel
theorem dX6_minus_9 : decode cX6_minus 9 = .ok (.aload_n 0, 1) := by decide +kernel
theorem dX6_minus_10 : decode cX6_minus 10 = .ok (.getfield 58, 3) := by decide +kernel
theorem dX6_minus_13 : decode cX6_minus 13 = .ok (.iconst 5, 1) := by decide +kernel
theorem dX6_minus_14 : decode cX6_minus 14 = .ok (.iload_n 1, 1) := by decide +kernel
theorem dX6_minus_15 : decode cX6_minus 15 = .ok (.imul, 1) := by decide +kernel
theorem dX6_minus_16 : decode cX6_minus 16 = .ok (.iload 4, 2) := by decide +kernel
theorem dX6_minus_18 : decode cX6_minus 18 = .ok (.iadd, 1) := by decide +kernel
theorem dX6_minus_19 : decode cX6_minus 19 = .ok (.aload_n 0, 1) := by decide +kernel
theorem dX6_minus_20 : decode cX6_minus 20 = .ok (.getfield 58, 3) := by decide +kernel
theorem dX6_minus_23 : decode cX6_minus 23 = .ok (.iconst 5, 1) := by decide +kernel
theorem dX6_minus_24 : decode cX6_minus 24 = .ok (.iload_n 1, 1) := by decide +kernel
theorem dX6_minus_25 : decode cX6_minus 25 = .ok (.imul, 1) := by decide +kernel
theorem dX6_minus_26 : decode cX6_minus 26 = .ok (.iload 4, 2) := by decide +kernel
theorem dX6_minus_28 : decode cX6_minus 28 = .ok (.iadd, 1) := by decide +kernel
theorem dX6_minus_29 : decode cX6_minus 29 = .ok (.iaload, 1) := by decide +kernel
theorem dX6_minus_30 : decode cX6_minus 30 = .ok (.i2l, 1) := by decide +kernel
theorem dX6_minus_31 : decode cX6_minus 31 = .ok (.iload_n 3, 1) := by decide +kernel
theorem dX6_minus_32 : decode cX6_minus 32 = .ok (.i2l, 1) := by decide +kernel
theorem dX6_minus_33 : decode cX6_minus 33 = .ok (.aload_n 0, 1) := by decide +kernel
theorem dX6_minus_34 : decode cX6_minus 34 = .ok (.getfield 58, 3) := by decide +kernel
theorem dX6_minus_37 : decode cX6_minus 37 = .ok (.iconst 5, 1) := by decide +kernel
theorem dX6_minus_38 : decode cX6_minus 38 = .ok (.iload_n 2, 1) := by decide +kernel
theorem dX6_minus_39 : decode cX6_minus 39 = .ok (.imul, 1) := by decide +kernel
theorem dX6_minus_40 : decode cX6_minus 40 = .ok (.iload 4, 2) := by decide +kernel
theorem dX6_minus_42 : decode cX6_minus 42 = .ok (.iadd, 1) := by decide +kernel
theorem dX6_minus_43 : decode cX6_minus 43 = .ok (.iaload, 1) := by decide +kernel
theorem dX6_minus_44 : decode cX6_minus 44 = .ok (.i2l, 1) := by decide +kernel
theorem dX6_minus_45 : decode cX6_minus 45 = .ok (.lmul, 1) := by decide +kernel
theorem dX6_minus_46 : decode cX6_minus 46 = .ok (.lsub, 1) := by decide +kernel
theorem dX6_minus_47 : decode cX6_minus 47 = .ok (.invokestatic 80, 3) := by decide +kernel
theorem dX6_minus_50 : decode cX6_minus 50 = .ok (.iastore, 1) := by decide +kernel
theorem dX6_minus_51 : decode cX6_minus 51 = .ok (.iinc 4 1, 3) := by decide +kernel
theorem dX6_minus_54 : decode cX6_minus 54 = .ok (.goto (-51), 3) := by decide +kernel
theorem dX6_minus_57 : decode cX6_minus 57 = .ok (.return_, 1) := by decide +kernel
theorem dX6_exchange_0 : decode cX6_exchange 0 = .ok (.iconst 0, 1) := by decide +kernel
theorem dX6_exchange_1 : decode cX6_exchange 1 = .ok (.istore_n 3, 1) := by decide +kernel
theorem dX6_exchange_2 : decode cX6_exchange 2 = .ok (.iload_n 3, 1) := by decide +kernel
theorem dX6_exchange_3 : decode cX6_exchange 3 = .ok (.iconst 5, 1) := by decide +kernel
theorem dX6_exchange_4 : decode cX6_exchange 4 = .ok (.if_icmp .ge 53, 3) := by decide +kernel
theorem dX6_exchange_7 : decode cX6_exchange 7 = .ok (.aload_n 0, 1) := by decide +kernel
theorem dX6_exchange_8 : decode cX6_exchange 8 = .ok (.getfield 58, 3) := by decide +kernel
theorem dX6_exchange_11 : decode cX6_exchange 11 = .ok (.iconst 5, 1) := by decide +kernel
theorem dX6_exchange_12 : decode cX6_exchange 12 = .ok (.iload_n 1, 1) := by decide +kernel
theorem dX6_exchange_13 : decode cX6_exchange 13 = .ok (.imul, 1) := by decide +kernel
theorem dX6_exchange_14 : decode cX6_exchange 14 = .ok (.iload_n 3, 1) := by decide +kernel
theorem dX6_exchange_15 : decode cX6_exchange 15 = .ok (.iadd, 1) := by decide +kernel
theorem dX6_exchange_16 : decode cX6_exchange 16 = .ok (.iaload, 1) := by decide +kernel
theorem dX6_exchange_17 : decode cX6_exchange 17 = .ok (.istore 4, 2) := by decide +kernel
theorem dX6_exchange_19 : decode cX6_exchange 19 = .ok (.aload_n 0, 1) := by decide +kernel
theorem dX6_exchange_20 : decode cX6_exchange 20 = .ok (.getfield 58, 3) := by decide +kernel
theorem dX6_exchange_23 : decode cX6_exchange 23 = .ok (.iconst 5, 1) := by decide +kernel
theorem dX6_exchange_24 : decode cX6_exchange 24 = .ok (.iload_n 1, 1) := by decide +kernel
theorem dX6_exchange_25 : decode cX6_exchange 25 = .ok (.imul, 1) := by decide +kernel
theorem dX6_exchange_26 : decode cX6_exchange 26 = .ok (.iload_n 3, 1) := by decide +kernel
theorem dX6_exchange_27 : decode cX6_exchange 27 = .ok (.iadd, 1) := by decide +kernel
theorem dX6_exchange_28 : decode cX6_exchange 28 = .ok (.aload_n 0, 1) := by decide +kernel
theorem dX6_exchange_29 : decode cX6_exchange 29 = .ok (.getfield 58, 3) := by decide +kernel
theorem dX6_exchange_32 : decode cX6_exchange 32 = .ok (.iconst 5, 1) := by decide +kernel
theorem dX6_exchange_33 : decode cX6_exchange 33 = .ok (.iload_n 2, 1) := by decide +kernel
theorem dX6_exchange_34 : decode cX6_exchange 34 = .ok (.imul, 1) := by decide +kernel
theorem dX6_exchange_35 : decode cX6_exchange 35 = .ok (.iload_n 3, 1) := by decide +kernel
theorem dX6_exchange_36 : decode cX6_exchange 36 = .ok (.iadd, 1) := by decide +kernel
theorem dX6_exchange_37 : decode cX6_exchange 37 = .ok (.iaload, 1) := by decide +kernel
theorem dX6_exchange_38 : decode cX6_exchange 38 = .ok (.iastore, 1) := by decide +kernel
theorem dX6_exchange_39 : decode cX6_exchange 39 = .ok (.aload_n 0, 1) := by decide +kernel
theorem dX6_exchange_40 : decode cX6_exchange 40 = .ok (.getfield 58, 3) := by decide +kernel
theorem dX6_exchange_43 : decode cX6_exchange 43 = .ok (.iconst 5, 1) := by decide +kernel
theorem dX6_exchange_44 : decode cX6_exchange 44 = .ok (.iload_n 2, 1) := by decide +kernel
theorem dX6_exchange_45 : decode cX6_exchange 45 = .ok (.imul, 1) := by decide +kernel
theorem dX6_exchange_46 : decode cX6_exchange 46 = .ok (.iload_n 3, 1) := by decide +kernel
theorem dX6_exchange_47 : decode cX6_exchange 47 = .ok (.iadd, 1) := by decide +kernel
theorem dX6_exchange_48 : decode cX6_exchange 48 = .ok (.iload 4, 2) := by decide +kernel
theorem dX6_exchange_50 : decode cX6_exchange 50 = .ok (.iastore, 1) := by decide +kernel
theorem dX6_exchange_51 : decode cX6_exchange 51 = .ok (.iinc 3 1, 3) := by decide +kernel
theorem dX6_exchange_54 : decode cX6_exchange 54 = .ok (.goto (-52), 3) := by decide +kernel
theorem dX6_exchange_57 : decode cX6_exchange 57 = .ok (.return_, 1) := by decide +kernel
set_option maxRecDepth 20000 in
theorem ggX6_rank_X6_exchange : GoodIn wsX6_rank wsX6_exchange := goodIn_r _ [9, 4, 22, 23, 24, 25, 26, 27, 28, 29, 30, 31, 32, 33, 34, 35, 36, 37, 38, 39, 40, 41, 42, 43, 44, 45, 46, 47, 48, 49, 50] (by decide +kernel) (by decide +kernel)
set_option maxRecDepth 20000 in
theorem gX6_rank_X6_exchange : GoodIn wsX6_rank (wsV RX6 87 RX6 yX6_exchange wsX6_exchange) := goodIn_app (goodIn_of _ (by decide +kernel)) ggX6_rank_X6_exchange
set_option maxRecDepth 20000 in
theorem ggX6_rank_X6_inverse : GoodIn wsX6_rank wsX6_inverse := goodIn_r _ [12, 13, 14, 15, 8, 16, 17] (by decide +kernel) (by decide +kernel)
set_option maxRecDepth 20000 in
theorem gX6_rank_X6_inverse : GoodIn wsX6_rank (va_wsS RX6 91 yX6_inverse wsX6_inverse) := goodIn_app (goodIn_of _ (by decide +kernel)) ggX6_rank_X6_inverse
set_option maxRecDepth 20000 in
theorem ggX6_rank_X6_mod : GoodIn wsX6_rank wsX6_mod := goodIn_r _ [16, 17] (by decide +kernel) (by decide +kernel)
set_option maxRecDepth 20000 in
theorem gX6_rank_X6_mod : GoodIn wsX6_rank (va_wsS RX6 80 yX6_mod wsX6_mod) := goodIn_app (goodIn_of _ (by decide +kernel)) ggX6_rank_X6_mod
set_option maxRecDepth 20000 in
theorem ggX6_rank_X6_minus : GoodIn wsX6_rank wsX6_minus := goodIn_r _ [21, 4, 14, 15, 8, 16, 17, 22, 23, 24, 25, 26, 27, 28, 29, 30, 31, 32, 33, 34, 35, 36, 37, 38, 39, 40, 41, 42, 43, 44, 45, 46, 47, 48, 49, 50] (by decide +kernel) (by decide +kernel)
set_option maxRecDepth 20000 in
theorem gX6_rank_X6_minus : GoodIn wsX6_rank (wsV RX6 95 RX6 yX6_minus wsX6_minus) := goodIn_app (goodIn_of _ (by decide +kernel)) ggX6_rank_X6_minus
theorem dX6_rank_0 : decode cX6_rank 0 = .ok (.iconst 0, 1) := by decide +kernel
theorem dX6_rank_1 : decode cX6_rank 1 = .ok (.istore_n 1, 1) := by decide +kernel
theorem dX6_rank_2 : decode cX6_rank 2 = .ok (.iconst 0, 1) := by decide +kernel
theorem dX6_rank_3 : decode cX6_rank 3 = .ok (.istore_n 2, 1) := by decide +kernel
theorem dX6_rank_4 : decode cX6_rank 4 = .ok (.iload_n 2, 1) := by decide +kernel
theorem dX6_rank_5 : decode cX6_rank 5 = .ok (.aload_n 0, 1) := by decide +kernel
theorem dX6_rank_6 : decode cX6_rank 6 = .ok (.getfield 71, 3) := by decide +kernel
theorem dX6_rank_9 : decode cX6_rank 9 = .ok (.if_icmp .gt 193, 3) := by decide +kernel
theorem dX6_rank_12 : decode cX6_rank 12 = .ok (.iload_n 2, 1) := by decide +kernel
theorem dX6_rank_13 : decode cX6_rank 13 = .ok (.ifCond .ne 7, 3) := by decide +kernel
theorem dX6_rank_16 : decode cX6_rank 16 = .ok (.iconst 0, 1) := by decide +kernel
theorem dX6_rank_17 : decode cX6_rank 17 = .ok (.goto 11, 3) := by decide +kernel
theorem dX6_rank_20 : decode cX6_rank 20 = .ok (.aload_n 0, 1) := by decide +kernel
theorem dX6_rank_21 : decode cX6_rank 21 = .ok (.getfield 71, 3) := by decide +kernel
theorem dX6_rank_24 : decode cX6_rank 24 = .ok (.iconst 1, 1) := by decide +kernel
theorem dX6_rank_25 : decode cX6_rank 25 = .ok (.iadd, 1) := by decide +kernel
theorem dX6_rank_26 : decode cX6_rank 26 = .ok (.iload_n 2, 1) := by decide +kernel
theorem dX6_rank_27 : decode cX6_rank 27 = .ok (.isub, 1) := by decide +kernel
theorem dX6_rank_28 : decode cX6_rank 28 = .ok (.istore_n 3, 1) := by decide +kernel
theorem dX6_rank_29 : decode cX6_rank 29 = .ok (.aload_n 0, 1) := by decide +kernel
theorem dX6_rank_30 : decode cX6_rank 30 = .ok (.getfield 61, 3) := by decide +kernel
theorem dX6_rank_33 : decode cX6_rank 33 = .ok (.iload_n 3, 1) := by decide +kernel
theorem dX6_rank_34 : decode cX6_rank 34 = .ok (.iconst (-1), 1) := by decide +kernel
theorem dX6_rank_35 : decode cX6_rank 35 = .ok (.iastore, 1) := by decide +kernel
theorem dX6_rank_36 : decode cX6_rank 36 = .ok (.iload_n 1, 1) := by decide +kernel
theorem dX6_rank_37 : decode cX6_rank 37 = .ok (.istore 4, 2) := by decide +kernel
theorem dX6_rank_39 : decode cX6_rank 39 = .ok (.iload 4, 2) := by decide +kernel
theorem dX6_rank_41 : decode cX6_rank 41 = .ok (.aload_n 0, 1) := by decide +kernel
theorem dX6_rank_42 : decode cX6_rank 42 = .ok (.getfield 84, 3) := by decide +kernel
theorem dX6_rank_45 : decode cX6_rank 45 = .ok (.if_icmp .ge 23, 3) := by decide +kernel
theorem dX6_rank_48 : decode cX6_rank 48 = .ok (.aload_n 0, 1) := by decide +kernel
theorem dX6_rank_49 : decode cX6_rank 49 = .ok (.getfield 58, 3) := by decide +kernel
theorem dX6_rank_52 : decode cX6_rank 52 = .ok (.iconst 5, 1) := by decide +kernel
