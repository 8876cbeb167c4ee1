theorem dX5_entry_0 : decode cX5_entry 0 = .ok (.aload_n 0, 1) := by decide +kernel
theorem dX5_entry_1 : decode cX5_entry 1 = .ok (.iload_n 1, 1) := by decide +kernel
theorem dX5_entry_2 : decode cX5_entry 2 = .ok (.invokevirtual 76, 3) := by decide +kernel
theorem dX5_entry_5 : decode cX5_entry 5 = .ok (.aload_n 0, 1) := by decide +kernel
theorem dX5_entry_6 : decode cX5_entry 6 = .ok (.iload_n 1, 1) := by decide +kernel
theorem dX5_entry_7 : decode cX5_entry 7 = .ok (.putfield 108, 3) := by decide +kernel
theorem dX5_entry_10 : decode cX5_entry 10 = .ok (.aload_n 0, 1) := by decide +kernel
theorem dX5_entry_11 : decode cX5_entry 11 = .ok (.iload_n 1, 1) := by decide +kernel
theorem dX5_entry_12 : decode cX5_entry 12 = .ok (.putfield 111, 3) := by decide +kernel
theorem dX5_entry_15 : decode cX5_entry 15 = .ok (.aload_n 0, 1) := by decide +kernel
theorem dX5_entry_16 : decode cX5_entry 16 = .ok (.iconst 0, 1) := by decide +kernel
theorem dX5_entry_17 : decode cX5_entry 17 = .ok (.putfield 104, 3) := by decide +kernel
theorem dX5_entry_20 : decode cX5_entry 20 = .ok (.return_, 1) := by decide +kernel
set_option maxRecDepth 20000 in
theorem ggX5_analyse_X5_forgetPoints : GoodIn wsX5_analyse wsX5_forgetPoints := goodIn_r _ [8, 2, 9, 10, 11, 12, 13, 14, 15, 16, 17, 18, 19, 20, 21, 22, 105, 106, 107, 108, 109, 110, 111, 112, 113, 114, 115, 116, 117, 118, 119, 120, 121, 122, 123, 124, 125] (by decide +kernel) (by decide +kernel)
set_option maxRecDepth 20000 in
theorem gX5_analyse_X5_forgetPoints : GoodIn wsX5_analyse (wsV RX5 114 RX5 yX5_forgetPoints wsX5_forgetPoints) := goodIn_app (goodIn_of _ (by decide +kernel)) ggX5_analyse_X5_forgetPoints
set_option maxRecDepth 20000 in
theorem ggX5_analyse_X5_addFirstPoints : GoodIn wsX5_analyse wsX5_addFirstPoints := goodIn_r _ [26, 27, 28, 29, 30, 31, 32, 33, 34, 35, 36, 7, 37, 9, 2, 1, 38, 39, 40, 41, 42, 43, 20, 44, 45, 46, 22, 47, 48, 49, 50, 51, 52, 53, 54, 55, 56, 57, 58, 59, 60, 61, 62, 63, 64, 65, 66, 67, 68, 69, 70, 71, 72, 73, 74, 75, 76, 77, 105, 106, 107, 108, 109, 110, 111, 112, 113, 114, 115, 116, 117, 118, 119, 120, 121, 122, 123, 124, 125, 126, 127, 128, 129] (by decide +kernel) (by decide +kernel)
set_option maxRecDepth 20000 in
theorem gX5_analyse_X5_addFirstPoints : GoodIn wsX5_analyse (wsV RX5 117 RX5 yX5_addFirstPoints wsX5_addFirstPoints) := goodIn_app (goodIn_of _ (by decide +kernel)) ggX5_analyse_X5_addFirstPoints
set_option maxRecDepth 20000 in
theorem ggX5_analyse_X5_workOff : GoodIn wsX5_analyse wsX5_workOff := goodIn_r _ [81, 82, 83, 84, 85, 86, 87, 88, 89, 7, 90, 91, 28, 92, 93, 94, 52, 53, 54, 55, 56, 57, 95, 96, 97, 98, 99, 100, 101, 102, 103, 104, 60, 34, 35, 36, 37, 9, 2, 1, 38, 39, 40, 41, 42, 43, 20, 44, 45, 46, 22, 47, 48, 49, 50, 51, 58, 59, 61, 62, 63, 64, 65, 31, 32, 33, 66, 67, 68, 69, 70, 71, 72, 73, 74, 75, 76, 77, 105, 106, 107, 108, 109, 110, 111, 112, 113, 114, 115, 116, 117, 118, 119, 130, 131, 132, 133, 134, 126, 127, 128, 129, 120, 121, 122, 123, 124, 125] (by decide +kernel) (by decide +kernel)
set_option maxRecDepth 20000 in
theorem gX5_analyse_X5_workOff : GoodIn wsX5_analyse (wsV RX5 123 RX5 yX5_workOff wsX5_workOff) := goodIn_app (goodIn_of _ (by decide +kernel)) ggX5_analyse_X5_workOff
theorem dX5_analyse_0 : decode cX5_analyse 0 = .ok (.aload_n 0, 1) := by decide +kernel
theorem dX5_analyse_1 : decode cX5_analyse 1 = .ok (.invokevirtual 114, 3) := by decide +kernel
theorem dX5_analyse_4 : decode cX5_analyse 4 = .ok (.aload_n 0, 1) := by decide +kernel
theorem dX5_analyse_5 : decode cX5_analyse 5 = .ok (.invokevirtual 117, 3) := by decide +kernel
theorem dX5_analyse_8 : decode cX5_analyse 8 = .ok (.iconst 0, 1) := by decide +kernel
theorem dX5_analyse_9 : decode cX5_analyse 9 = .ok (.istore_n 1, 1) := by decide +kernel
theorem dX5_analyse_10 : decode cX5_analyse 10 = .ok (.iload_n 1, 1) := by decide +kernel
theorem dX5_analyse_11 : decode cX5_analyse 11 = .ok (.aload_n 0, 1) := by decide +kernel
theorem dX5_analyse_12 : decode cX5_analyse 12 = .ok (.getfield 64, 3) := by decide +kernel
theorem dX5_analyse_15 : decode cX5_analyse 15 = .ok (.arraylength, 1) := by decide +kernel
theorem dX5_analyse_16 : decode cX5_analyse 16 = .ok (.if_icmp .ge 27, 3) := by decide +kernel
theorem dX5_analyse_19 : decode cX5_analyse 19 = .ok (.iload_n 1, 1) := by decide +kernel
theorem dX5_analyse_20 : decode cX5_analyse 20 = .ok (.aload_n 0, 1) := by decide +kernel
theorem dX5_analyse_21 : decode cX5_analyse 21 = .ok (.getfield 120, 3) := by decide +kernel
theorem dX5_analyse_24 : decode cX5_analyse 24 = .ok (.if_icmp .ge 19, 3) := by decide +kernel
theorem dX5_analyse_27 : decode cX5_analyse 27 = .ok (.aload_n 0, 1) := by decide +kernel
theorem dX5_analyse_28 : decode cX5_analyse 28 = .ok (.aload_n 0, 1) := by decide +kernel
theorem dX5_analyse_29 : decode cX5_analyse 29 = .ok (.getfield 64, 3) := by decide +kernel
theorem dX5_analyse_32 : decode cX5_analyse 32 = .ok (.iload_n 1, 1) := by decide +kernel
theorem dX5_analyse_33 : decode cX5_analyse 33 = .ok (.aaload, 1) := by decide +kernel
theorem dX5_analyse_34 : decode cX5_analyse 34 = .ok (.invokevirtual 123, 3) := by decide +kernel
theorem dX5_analyse_37 : decode cX5_analyse 37 = .ok (.iinc 1 1, 3) := by decide +kernel
theorem dX5_analyse_40 : decode cX5_analyse 40 = .ok (.goto (-30), 3) := by decide +kernel
theorem dX5_analyse_43 : decode cX5_analyse 43 = .ok (.aload_n 0, 1) := by decide +kernel
theorem dX5_analyse_44 : decode cX5_analyse 44 = .ok (.iconst 1, 1) := by decide +kernel
theorem dX5_analyse_45 : decode cX5_analyse 45 = .ok (.putfield 104, 3) := by decide +kernel
theorem dX5_analyse_48 : decode cX5_analyse 48 = .ok (.aload_n 0, 1) := by decide +kernel
theorem dX5_analyse_49 : decode cX5_analyse 49 = .ok (.getfield 120, 3) := by decide +kernel
theorem dX5_analyse_52 : decode cX5_analyse 52 = .ok (.ireturn, 1) := by decide +kernel
set_option maxRecDepth 20000 in
theorem ggX5_points_X5_requireNode : GoodIn wsX5_points wsX5_requireNode := goodIn_ca (goodIn_r _ [7, 8, 9, 1, 17, 18, 19, 20, 21, 22, 23, 24, 25, 26, 27, 28, 29, 30, 31] (by decide +kernel) (by decide +kernel)) (goodIn_sub (fun _ h => List.mem_cons_of_mem _ (List.mem_append_left _ (List.mem_append_right _ h))) (by decide +kernel))
set_option maxRecDepth 20000 in
theorem gX5_points_X5_requireNode : GoodIn wsX5_points (wsV RX5 76 RX5 yX5_requireNode wsX5_requireNode) := goodIn_app (goodIn_of _ (by decide +kernel)) ggX5_points_X5_requireNode
set_option maxRecDepth 20000 in
theorem ggX5_points_X5_requireAnalysed : GoodIn wsX5_points wsX5_requireAnalysed := goodIn_ca (goodIn_r _ [13, 14, 15, 16, 17, 18, 19, 20, 21, 22, 23, 24, 25, 26, 27, 28, 29, 30, 31] (by decide +kernel) (by decide +kernel)) (goodIn_sub (fun _ h => List.mem_cons_of_mem _ (List.mem_append_right _ h)) (by decide +kernel))
set_option maxRecDepth 20000 in
theorem gX5_points_X5_requireAnalysed : GoodIn wsX5_points (wsV RX5 127 RX5 yX5_requireAnalysed wsX5_requireAnalysed) := goodIn_app (goodIn_of _ (by decide +kernel)) ggX5_points_X5_requireAnalysed
theorem dX5_points_0 : decode cX5_points 0 = .ok (.aload_n 0, 1) := by decide +kernel
theorem dX5_points_1 : decode cX5_points 1 = .ok (.iload_n 1, 1) := by decide +kernel
theorem dX5_points_2 : decode cX5_points 2 = .ok (.invokevirtual 76, 3) := by decide +kernel
theorem dX5_points_5 : decode cX5_points 5 = .ok (.aload_n 0, 1) := by decide +kernel
theorem dX5_points_6 : decode cX5_points 6 = .ok (.invokevirtual 127, 3) := by decide +kernel
theorem dX5_points_9 : decode cX5_points 9 = .ok (.aload_n 0, 1) := by decide +kernel
theorem dX5_points_10 : decode cX5_points 10 = .ok (.getfield 57, 3) := by decide +kernel
theorem dX5_points_13 : decode cX5_points 13 = .ok (.iload_n 1, 1) := by decide +kernel
theorem dX5_points_14 : decode cX5_points 14 = .ok (.aaload, 1) := by decide +kernel
theorem dX5_points_15 : decode cX5_points 15 = .ok (.getfield 130, 3) := by decide +kernel
theorem dX5_points_18 : decode cX5_points 18 = .ok (.ireturn, 1) := by decide +kernel
set_option maxRecDepth 20000 in
theorem ggX5_point_X5_requireNode : GoodIn wsX5_point wsX5_requireNode := goodIn_ca (goodIn_r _ [13, 14, 15, 3, 28, 29, 30, 31, 32, 33, 34, 35, 36, 37, 38, 39, 40, 41, 42] (by decide +kernel) (by decide +kernel)) (goodIn_sub (fun _ h => List.mem_cons_of_mem _ (List.mem_append_left _ (List.mem_append_right _ h))) (by decide +kernel))
set_option maxRecDepth 20000 in
theorem gX5_point_X5_requireNode : GoodIn wsX5_point (wsV RX5 76 RX5 yX5_requireNode wsX5_requireNode) := goodIn_app (goodIn_of _ (by decide +kernel)) ggX5_point_X5_requireNode
set_option maxRecDepth 20000 in
theorem ggX5_point_X5_requirePlace : GoodIn wsX5_point wsX5_requirePlace := goodIn_ca (goodIn_r _ [19, 14, 15, 20, 28, 29, 30, 31, 32, 33, 34, 35, 36, 37, 38, 39, 40, 41, 42] (by decide +kernel) (by decide +kernel)) (goodIn_sub (fun _ h => List.mem_cons_of_mem _ (List.mem_append_left _ (List.mem_append_right _ h))) (by decide +kernel))
set_option maxRecDepth 20000 in
theorem gX5_point_X5_requirePlace : GoodIn wsX5_point (wsV RX5 69 RX5 yX5_requirePlace wsX5_requirePlace) := goodIn_app (goodIn_of _ (by decide +kernel)) ggX5_point_X5_requirePlace
set_option maxRecDepth 20000 in
theorem ggX5_point_X5_requireAnalysed : GoodIn wsX5_point wsX5_requireAnalysed := goodIn_ca (goodIn_r _ [24, 25, 26, 27, 28, 29, 30, 31, 32, 33, 34, 35, 36, 37, 38, 39, 40, 41, 42] (by decide +kernel) (by decide +kernel)) (goodIn_sub (fun _ h => List.mem_cons_of_mem _ (List.mem_append_right _ h)) (by decide +kernel))
set_option maxRecDepth 20000 in
theorem gX5_point_X5_requireAnalysed : GoodIn wsX5_point (wsV RX5 127 RX5 yX5_requireAnalysed wsX5_requireAnalysed) := goodIn_app (goodIn_of _ (by decide +kernel)) ggX5_point_X5_requireAnalysed
theorem dX5_point_0 : decode cX5_point 0 = .ok (.aload_n 0, 1) := by decide +kernel
theorem dX5_point_1 : decode cX5_point 1 = .ok (.iload_n 1, 1) := by decide +kernel
theorem dX5_point_2 : decode cX5_point 2 = .ok (.invokevirtual 76, 3) := by decide +kernel
theorem dX5_point_5 : decode cX5_point 5 = .ok (.aload_n 0, 1) := by decide +kernel
theorem dX5_point_6 : decode cX5_point 6 = .ok (.iload_n 3, 1) := by decide +kernel
theorem dX5_point_7 : decode cX5_point 7 = .ok (.invokevirtual 69, 3) := by decide +kernel
theorem dX5_point_10 : decode cX5_point 10 = .ok (.aload_n 0, 1) := by decide +kernel
theorem dX5_point_11 : decode cX5_point 11 = .ok (.invokevirtual 127, 3) := by decide +kernel
theorem dX5_point_14 : decode cX5_point 14 = .ok (.aload_n 0, 1) := by decide +kernel
theorem dX5_point_15 : decode cX5_point 15 = .ok (.getfield 57, 3) := by decide +kernel
theorem dX5_point_18 : decode cX5_point 18 = .ok (.iload_n 1, 1) := by decide +kernel
theorem dX5_point_19 : decode cX5_point 19 = .ok (.aaload, 1) := by decide +kernel
theorem dX5_point_20 : decode cX5_point 20 = .ok (.astore 4, 2) := by decide +kernel
theorem dX5_point_22 : decode cX5_point 22 = .ok (.iload_n 2, 1) := by decide +kernel
theorem dX5_point_23 : decode cX5_point 23 = .ok (.ifCond .lt 12, 3) := by decide +kernel
theorem dX5_point_26 : decode cX5_point 26 = .ok (.iload_n 2, 1) := by decide +kernel
theorem dX5_point_27 : decode cX5_point 27 = .ok (.aload 4, 2) := by decide +kernel
theorem dX5_point_29 : decode cX5_point 29 = .ok (.getfield 130, 3) := by decide +kernel
theorem dX5_point_32 : decode cX5_point 32 = .ok (.if_icmp .lt 13, 3) := by decide +kernel
theorem dX5_point_35 : decode cX5_point 35 = .ok (.new 133, 3) := by decide +kernel
theorem dX5_point_38 : decode cX5_point 38 = .ok (.dup, 1) := by decide +kernel
theorem dX5_point_39 : decode cX5_point 39 = .ok (.ldc 135, 2) := by decide +kernel
theorem dX5_point_41 : decode cX5_point 41 = .ok (.invokespecial 137, 3) := by decide +kernel
theorem dX5_point_44 : decode cX5_point 44 = .ok (.athrow, 1) := by decide +kernel
theorem dX5_point_45 : decode cX5_point 45 = .ok (.aload_n 0, 1) := by decide +kernel
theorem dX5_point_46 : decode cX5_point 46 = .ok (.getfield 64, 3) := by decide +kernel
theorem dX5_point_49 : decode cX5_point 49 = .ok (.aload 4, 2) := by decide +kernel
theorem dX5_point_51 : decode cX5_point 51 = .ok (.getfield 138, 3) := by decide +kernel
theorem dX5_point_54 : decode cX5_point 54 = .ok (.iload_n 2, 1) := by decide +kernel
theorem dX5_point_55 : decode cX5_point 55 = .ok (.iaload, 1) := by decide +kernel
theorem dX5_point_56 : decode cX5_point 56 = .ok (.aaload, 1) := by decide +kernel
theorem dX5_point_57 : decode cX5_point 57 = .ok (.astore 5, 2) := by decide +kernel
theorem dX5_point_59 : decode cX5_point 59 = .ok (.iload_n 3, 1) := by decide +kernel
theorem dX5_point_60 : decode cX5_point 60 = .ok (.ifCond .ne 11, 3) := by decide +kernel
theorem dX5_point_63 : decode cX5_point 63 = .ok (.aload 5, 2) := by decide +kernel
theorem dX5_point_65 : decode cX5_point 65 = .ok (.getfield 141, 3) := by decide +kernel
theorem dX5_point_68 : decode cX5_point 68 = .ok (.goto 10, 3) := by decide +kernel
theorem dX5_point_71 : decode cX5_point 71 = .ok (.aload 5, 2) := by decide +kernel
theorem dX5_point_73 : decode cX5_point 73 = .ok (.getfield 144, 3) := by decide +kernel
theorem dX5_point_76 : decode cX5_point 76 = .ok (.iload_n 3, 1) := by decide +kernel
theorem dX5_point_77 : decode cX5_point 77 = .ok (.iaload, 1) := by decide +kernel
theorem dX5_point_78 : decode cX5_point 78 = .ok (.ireturn, 1) := by decide +kernel
set_option maxRecDepth 20000 in
theorem ggX5_equations_X5_requireNode : GoodIn wsX5_equations wsX5_requireNode := goodIn_ca (goodIn_r _ [6, 7, 8, 1, 23, 24, 25, 26, 27, 28, 29, 30, 31, 32, 33, 34, 35, 36, 37] (by decide +kernel) (by decide +kernel)) (goodIn_sub (fun _ h => List.mem_cons_of_mem _ (List.mem_append_left _ (List.mem_append_right _ h))) (by decide +kernel))
set_option maxRecDepth 20000 in
theorem gX5_equations_X5_requireNode : GoodIn wsX5_equations (wsV RX5 76 RX5 yX5_requireNode wsX5_requireNode) := goodIn_app (goodIn_of _ (by decide +kernel)) ggX5_equations_X5_requireNode
set_option maxRecDepth 20000 in
theorem ggX5_equations_X5_requireAnalysed : GoodIn wsX5_equations wsX5_requireAnalysed := goodIn_ca (goodIn_r _ [12, 13, 14, 15, 23, 24, 25, 26, 27, 28, 29, 30, 31, 32, 33, 34, 35, 36, 37] (by decide +kernel) (by decide +kernel)) (goodIn_sub (fun _ h => List.mem_cons_of_mem _ (List.mem_append_right _ h)) (by decide +kernel))
set_option maxRecDepth 20000 in
theorem gX5_equations_X5_requireAnalysed : GoodIn wsX5_equations (wsV RX5 127 RX5 yX5_requireAnalysed wsX5_requireAnalysed) := goodIn_app (goodIn_of _ (by decide +kernel)) ggX5_equations_X5_requireAnalysed
set_option maxRecDepth 20000 in
theorem ggX5_equations_X1_equationCount : GoodIn wsX5_equations wsX1_equationCount := goodIn_r _ [20, 21, 22, 38, 39, 40] (by decide +kernel) (by decide +kernel)
set_option maxRecDepth 20000 in
theorem gX5_equations_X1_equationCount : GoodIn wsX5_equations (wsV RX5 147 RX1 yX1_equationCount wsX1_equationCount) := goodIn_app (goodIn_of _ (by decide +kernel)) ggX5_equations_X1_equationCount
theorem dX5_equations_0 : decode cX5_equations 0 = .ok (.aload_n 0, 1) := by decide +kernel
theorem dX5_equations_1 : decode cX5_equations 1 = .ok (.iload_n 1, 1) := by decide +kernel
theorem dX5_equations_2 : decode cX5_equations 2 = .ok (.invokevirtual 76, 3) := by decide +kernel
theorem dX5_equations_5 : decode cX5_equations 5 = .ok (.aload_n 0, 1) := by decide +kernel
theorem dX5_equations_6 : decode cX5_equations 6 = .ok (.invokevirtual 127, 3) := by decide +kernel
theorem dX5_equations_9 : decode cX5_equations 9 = .ok (.aload_n 0, 1) := by decide +kernel
theorem dX5_equations_10 : decode cX5_equations 10 = .ok (.getfield 57, 3) := by decide +kernel
theorem dX5_equations_13 : decode cX5_equations 13 = .ok (.iload_n 1, 1) := by decide +kernel
theorem dX5_equations_14 : decode cX5_equations 14 = .ok (.aaload, 1) := by decide +kernel
theorem dX5_equations_15 : decode cX5_equations 15 = .ok (.invokevirtual 147, 3) := by decide +kernel
theorem dX5_equations_18 : decode cX5_equations 18 = .ok (.ireturn, 1) := by decide +kernel
set_option maxRecDepth 20000 in
theorem ggX5_coefficient_X5_requireNode : GoodIn wsX5_coefficient wsX5_requireNode := goodIn_ca (goodIn_r _ [9, 10, 11, 3, 49, 50, 51, 52, 53, 54, 55, 56, 57, 58, 59, 60, 61, 62, 63] (by decide +kernel) (by decide +kernel)) (goodIn_sub (fun _ h => List.mem_cons_of_mem _ (List.mem_append_left _ (List.mem_append_right _ h))) (by decide +kernel))
set_option maxRecDepth 20000 in
theorem gX5_coefficient_X5_requireNode : GoodIn wsX5_coefficient (wsV RX5 76 RX5 yX5_requireNode wsX5_requireNode) := goodIn_app (goodIn_of _ (by decide +kernel)) ggX5_coefficient_X5_requireNode
set_option maxRecDepth 20000 in
theorem ggX5_coefficient_X5_requirePlace : GoodIn wsX5_coefficient wsX5_requirePlace := goodIn_ca (goodIn_r _ [15, 10, 11, 16, 49, 50, 51, 52, 53, 54, 55, 56, 57, 58, 59, 60, 61, 62, 63] (by decide +kernel) (by decide +kernel)) (goodIn_sub (fun _ h => List.mem_cons_of_mem _ (List.mem_append_left _ (List.mem_append_right _ h))) (by decide +kernel))
set_option maxRecDepth 20000 in
theorem gX5_coefficient_X5_requirePlace : GoodIn wsX5_coefficient (wsV RX5 69 RX5 yX5_requirePlace wsX5_requirePlace) := goodIn_app (goodIn_of _ (by decide +kernel)) ggX5_coefficient_X5_requirePlace
set_option maxRecDepth 20000 in
theorem ggX5_coefficient_X5_requireAnalysed : GoodIn wsX5_coefficient wsX5_requireAnalysed := goodIn_ca (goodIn_r _ [20, 21, 22, 23, 49, 50, 51, 52, 53, 54, 55, 56, 57, 58, 59, 60, 61, 62, 63] (by decide +kernel) (by decide +kernel)) (goodIn_sub (fun _ h => List.mem_cons_of_mem _ (List.mem_append_right _ h)) (by decide +kernel))
set_option maxRecDepth 20000 in
theorem gX5_coefficient_X5_requireAnalysed : GoodIn wsX5_coefficient (wsV RX5 127 RX5 yX5_requireAnalysed wsX5_requireAnalysed) := goodIn_app (goodIn_of _ (by decide +kernel)) ggX5_coefficient_X5_requireAnalysed
set_option maxRecDepth 20000 in
theorem ggX5_coefficient_X1_equationCount : GoodIn wsX5_coefficient wsX1_equationCount := goodIn_r _ [28, 29, 30, 64, 65, 66] (by decide +kernel) (by decide +kernel)
set_option maxRecDepth 20000 in
theorem gX5_coefficient_X1_equationCount : GoodIn wsX5_coefficient (wsV RX5 147 RX1 yX1_equationCount wsX1_equationCount) := goodIn_app (goodIn_of _ (by decide +kernel)) ggX5_coefficient_X1_equationCount
set_option maxRecDepth 20000 in
theorem ggX5_coefficient_X4_freePlace : GoodIn wsX5_coefficient wsX4_freePlace := goodIn_r _ [35, 36, 67, 68, 69] (by decide +kernel) (by decide +kernel)
set_option maxRecDepth 20000 in
theorem gX5_coefficient_X4_freePlace : GoodIn wsX5_coefficient (wsV RX5 156 RX4 yX4_freePlace wsX4_freePlace) := goodIn_app (goodIn_of _ (by decide +kernel)) ggX5_coefficient_X4_freePlace
set_option maxRecDepth 20000 in
theorem ggX5_coefficient_X4_vanishing : GoodIn wsX5_coefficient wsX4_vanishing := goodIn_r _ [40, 36, 41, 42, 8, 43, 44, 45, 46, 47, 48, 67, 68, 69] (by decide +kernel) (by decide +kernel)
set_option maxRecDepth 20000 in
theorem gX5_coefficient_X4_vanishing : GoodIn wsX5_coefficient (wsV RX5 159 RX4 yX4_vanishing wsX4_vanishing) := goodIn_app (goodIn_of _ (by decide +kernel)) ggX5_coefficient_X4_vanishing
theorem dX5_coefficient_0 : decode cX5_coefficient 0 = .ok (.aload_n 0, 1) := by decide +kernel
theorem dX5_coefficient_1 : decode cX5_coefficient 1 = .ok (.iload_n 1, 1) := by decide +kernel
theorem dX5_coefficient_2 : decode cX5_coefficient 2 = .ok (.invokevirtual 76, 3) := by decide +kernel
theorem dX5_coefficient_5 : decode cX5_coefficient 5 = .ok (.aload_n 0, 1) := by decide +kernel
theorem dX5_coefficient_6 : decode cX5_coefficient 6 = .ok (.iload_n 3, 1) := by decide +kernel
theorem dX5_coefficient_7 : decode cX5_coefficient 7 = .ok (.invokevirtual 69, 3) := by decide +kernel
theorem dX5_coefficient_10 : decode cX5_coefficient 10 = .ok (.aload_n 0, 1) := by decide +kernel
theorem dX5_coefficient_11 : decode cX5_coefficient 11 = .ok (.invokevirtual 127, 3) := by decide +kernel
theorem dX5_coefficient_14 : decode cX5_coefficient 14 = .ok (.aload_n 0, 1) := by decide +kernel
theorem dX5_coefficient_15 : decode cX5_coefficient 15 = .ok (.getfield 57, 3) := by decide +kernel
theorem dX5_coefficient_18 : decode cX5_coefficient 18 = .ok (.iload_n 1, 1) := by decide +kernel
theorem dX5_coefficient_19 : decode cX5_coefficient 19 = .ok (.aaload, 1) := by decide +kernel
theorem dX5_coefficient_20 : decode cX5_coefficient 20 = .ok (.astore 4, 2) := by decide +kernel
theorem dX5_coefficient_22 : decode cX5_coefficient 22 = .ok (.iload_n 2, 1) := by decide +kernel
theorem dX5_coefficient_23 : decode cX5_coefficient 23 = .ok (.ifCond .lt 12, 3) := by decide +kernel
theorem dX5_coefficient_26 : decode cX5_coefficient 26 = .ok (.iload_n 2, 1) := by decide +kernel
theorem dX5_coefficient_27 : decode cX5_coefficient 27 = .ok (.aload 4, 2) := by decide +kernel
theorem dX5_coefficient_29 : decode cX5_coefficient 29 = .ok (.invokevirtual 147, 3) := by decide +kernel
theorem dX5_coefficient_32 : decode cX5_coefficient 32 = .ok (.if_icmp .lt 13, 3) := by decide +kernel
theorem dX5_coefficient_35 : decode cX5_coefficient 35 = .ok (.new 133, 3) := by decide +kernel
theorem dX5_coefficient_38 : decode cX5_coefficient 38 = .ok (.dup, 1) := by decide +kernel
theorem dX5_coefficient_39 : decode cX5_coefficient 39 = .ok (.ldc 151, 2) := by decide +kernel
theorem dX5_coefficient_41 : decode cX5_coefficient 41 = .ok (.invokespecial 137, 3) := by decide +kernel
theorem dX5_coefficient_44 : decode cX5_coefficient 44 = .ok (.athrow, 1) := by decide +kernel
theorem dX5_coefficient_45 : decode cX5_coefficient 45 = .ok (.aload 4, 2) := by decide +kernel
theorem dX5_coefficient_47 : decode cX5_coefficient 47 = .ok (.getfield 153, 3) := by decide +kernel
theorem dX5_coefficient_50 : decode cX5_coefficient 50 = .ok (.aload 4, 2) := by decide +kernel
theorem dX5_coefficient_52 : decode cX5_coefficient 52 = .ok (.getfield 153, 3) := by decide +kernel
theorem dX5_coefficient_55 : decode cX5_coefficient 55 = .ok (.iload_n 2, 1) := by decide +kernel
theorem dX5_coefficient_56 : decode cX5_coefficient 56 = .ok (.invokevirtual 156, 3) := by decide +kernel
theorem dX5_coefficient_59 : decode cX5_coefficient 59 = .ok (.iload_n 3, 1) := by decide +kernel
theorem dX5_coefficient_60 : decode cX5_coefficient 60 = .ok (.invokevirtual 159, 3) := by decide +kernel
theorem dX5_coefficient_63 : decode cX5_coefficient 63 = .ok (.ireturn, 1) := by decide +kernel
set_option maxRecDepth 20000 in
theorem ggX5_holds_X5_requireNode : GoodIn wsX5_holds wsX5_requireNode := goodIn_ca (goodIn_r _ [6, 7, 8, 1, 37, 38, 39, 40, 41, 42, 43, 44, 45, 46, 47, 48, 49, 50, 51] (by decide +kernel) (by decide +kernel)) (goodIn_sub (fun _ h => List.mem_cons_of_mem _ (List.mem_append_left _ (List.mem_append_right _ h))) (by decide +kernel))
set_option maxRecDepth 20000 in
theorem gX5_holds_X5_requireNode : GoodIn wsX5_holds (wsV RX5 76 RX5 yX5_requireNode wsX5_requireNode) := goodIn_app (goodIn_of _ (by decide +kernel)) ggX5_holds_X5_requireNode
set_option maxRecDepth 20000 in
theorem ggX5_holds_X5_requireAnalysed : GoodIn wsX5_holds wsX5_requireAnalysed := goodIn_ca (goodIn_r _ [12, 13, 14, 15, 37, 38, 39, 40, 41, 42, 43, 44, 45, 46, 47, 48, 49, 50, 51] (by decide +kernel) (by decide +kernel)) (goodIn_sub (fun _ h => List.mem_cons_of_mem _ (List.mem_append_right _ h)) (by decide +kernel))
set_option maxRecDepth 20000 in
theorem gX5_holds_X5_requireAnalysed : GoodIn wsX5_holds (wsV RX5 127 RX5 yX5_requireAnalysed wsX5_requireAnalysed) := goodIn_app (goodIn_of _ (by decide +kernel)) ggX5_holds_X5_requireAnalysed
set_option maxRecDepth 20000 in
theorem ggX5_holds_X5_holdsAtPoints : GoodIn wsX5_holds wsX5_holdsAtPoints := goodIn_r _ [19, 20, 21, 22, 23, 24, 25, 26, 5, 27, 28, 52, 53, 54, 37, 38, 39, 40, 41, 42, 43, 44, 45, 46, 47, 48, 49, 50, 51, 55, 56, 57, 58] (by decide +kernel) (by decide +kernel)
set_option maxRecDepth 20000 in
theorem gX5_holds_X5_holdsAtPoints : GoodIn wsX5_holds (wsV RX5 162 RX5 yX5_holdsAtPoints wsX5_holdsAtPoints) := goodIn_app (goodIn_of _ (by decide +kernel)) ggX5_holds_X5_holdsAtPoints
set_option maxRecDepth 20000 in
theorem ggX5_holds_X5_clearDraft : GoodIn wsX5_holds wsX5_clearDraft := goodIn_r _ [32, 21, 33, 34, 35, 36, 37, 38, 39, 40, 41, 42, 43, 44, 45, 46, 47, 48, 49, 50, 51] (by decide +kernel) (by decide +kernel)
set_option maxRecDepth 20000 in
theorem gX5_holds_X5_clearDraft : GoodIn wsX5_holds (wsV RX5 101 RX5 yX5_clearDraft wsX5_clearDraft) := goodIn_app (goodIn_of _ (by decide +kernel)) ggX5_holds_X5_clearDraft
theorem dX5_holds_0 : decode cX5_holds 0 = .ok (.aload_n 0, 1) := by decide +kernel
theorem dX5_holds_1 : decode cX5_holds 1 = .ok (.iload_n 1, 1) := by decide +kernel
theorem dX5_holds_2 : decode cX5_holds 2 = .ok (.invokevirtual 76, 3) := by decide +kernel
theorem dX5_holds_5 : decode cX5_holds 5 = .ok (.aload_n 0, 1) := by decide +kernel
theorem dX5_holds_6 : decode cX5_holds 6 = .ok (.invokevirtual 127, 3) := by decide +kernel
theorem dX5_holds_9 : decode cX5_holds 9 = .ok (.aload_n 0, 1) := by decide +kernel
theorem dX5_holds_10 : decode cX5_holds 10 = .ok (.aload_n 0, 1) := by decide +kernel
theorem dX5_holds_11 : decode cX5_holds 11 = .ok (.getfield 57, 3) := by decide +kernel
theorem dX5_holds_14 : decode cX5_holds 14 = .ok (.iload_n 1, 1) := by decide +kernel
theorem dX5_holds_15 : decode cX5_holds 15 = .ok (.aaload, 1) := by decide +kernel
theorem dX5_holds_16 : decode cX5_holds 16 = .ok (.invokevirtual 162, 3) := by decide +kernel
theorem dX5_holds_19 : decode cX5_holds 19 = .ok (.istore_n 2, 1) := by decide +kernel
theorem dX5_holds_20 : decode cX5_holds 20 = .ok (.aload_n 0, 1) := by decide +kernel
theorem dX5_holds_21 : decode cX5_holds 21 = .ok (.invokevirtual 101, 3) := by decide +kernel
theorem dX5_holds_24 : decode cX5_holds 24 = .ok (.iload_n 2, 1) := by decide +kernel
theorem dX5_holds_25 : decode cX5_holds 25 = .ok (.ireturn, 1) := by decide +kernel
set_option maxRecDepth 20000 in
theorem ggX5_begin_X5_requireVariable : GoodIn wsX5_begin wsX5_requireVariable := goodIn_ca (goodIn_r _ [8, 9, 10, 11, 20, 21, 22, 23, 24, 25, 26, 27, 28, 29, 30, 31, 32, 33, 34] (by decide +kernel) (by decide +kernel)) (goodIn_sub (fun _ h => List.mem_cons_of_mem _ (List.mem_append_right _ h)) (by decide +kernel))
set_option maxRecDepth 20000 in
theorem gX5_begin_X5_requireVariable : GoodIn wsX5_begin (wsV RX5 86 RX5 yX5_requireVariable wsX5_requireVariable) := goodIn_app (goodIn_of _ (by decide +kernel)) ggX5_begin_X5_requireVariable
set_option maxRecDepth 20000 in
theorem ggX5_begin_X5_number : GoodIn wsX5_begin wsX5_number := goodIn_r _ [14, 15, 16, 17, 18, 19] (by decide +kernel) (by decide +kernel)
set_option maxRecDepth 20000 in
theorem gX5_begin_X5_number : GoodIn wsX5_begin (va_wsS RX5 72 yX5_number wsX5_number) := goodIn_app (goodIn_of _ (by decide +kernel)) ggX5_begin_X5_number
theorem dX5_begin_0 : decode cX5_begin 0 = .ok (.aload_n 0, 1) := by decide +kernel
theorem dX5_begin_1 : decode cX5_begin 1 = .ok (.iload_n 1, 1) := by decide +kernel
theorem dX5_begin_2 : decode cX5_begin 2 = .ok (.invokevirtual 86, 3) := by decide +kernel
theorem dX5_begin_5 : decode cX5_begin 5 = .ok (.aload_n 0, 1) := by decide +kernel
theorem dX5_begin_6 : decode cX5_begin 6 = .ok (.getfield 29, 3) := by decide +kernel
theorem dX5_begin_9 : decode cX5_begin 9 = .ok (.iload_n 1, 1) := by decide +kernel
theorem dX5_begin_10 : decode cX5_begin 10 = .ok (.iload_n 2, 1) := by decide +kernel
theorem dX5_begin_11 : decode cX5_begin 11 = .ok (.invokestatic 72, 3) := by decide +kernel
theorem dX5_begin_14 : decode cX5_begin 14 = .ok (.iastore, 1) := by decide +kernel
theorem dX5_begin_15 : decode cX5_begin 15 = .ok (.aload_n 0, 1) := by decide +kernel
theorem dX5_begin_16 : decode cX5_begin 16 = .ok (.aload_n 0, 1) := by decide +kernel
theorem dX5_begin_17 : decode cX5_begin 17 = .ok (.getfield 108, 3) := by decide +kernel
theorem dX5_begin_20 : decode cX5_begin 20 = .ok (.putfield 111, 3) := by decide +kernel
theorem dX5_begin_23 : decode cX5_begin 23 = .ok (.return_, 1) := by decide +kernel
set_option maxRecDepth 20000 in
theorem ggX5_go_X0_isOpen : GoodIn wsX5_go wsX0_isOpen := goodIn_r _ [13, 14, 15, 16, 17, 18, 19, 48, 49, 50, 51, 52] (by decide +kernel) (by decide +kernel)
set_option maxRecDepth 20000 in
theorem gX5_go_X0_isOpen : GoodIn wsX5_go (wsV RX5 173 RX0 yX0_isOpen wsX0_isOpen) := goodIn_app (goodIn_of _ (by decide +kernel)) ggX5_go_X0_isOpen
set_option maxRecDepth 20000 in
theorem ggX5_go_X5_number : GoodIn wsX5_go wsX5_number := goodIn_r _ [22, 23, 24, 25, 26, 27] (by decide +kernel) (by decide +kernel)
set_option maxRecDepth 20000 in
theorem gX5_go_X5_number : GoodIn wsX5_go (va_wsS RX5 72 yX5_number wsX5_number) := goodIn_app (goodIn_of _ (by decide +kernel)) ggX5_go_X5_number
set_option maxRecDepth 20000 in
theorem ggX5_go_X0_step : GoodIn wsX5_go wsX0_step := goodIn_r _ [31, 14, 32, 15, 16, 17, 18, 19, 48, 49, 50, 51, 52] (by decide +kernel) (by decide +kernel)
set_option maxRecDepth 20000 in
theorem gX5_go_X0_step : GoodIn wsX5_go (wsV RX5 177 RX0 yX0_step wsX0_step) := goodIn_app (goodIn_of _ (by decide +kernel)) ggX5_go_X0_step
theorem dX5_go_0 : decode cX5_go 0 = .ok (.iload_n 1, 1) := by decide +kernel
theorem dX5_go_1 : decode cX5_go 1 = .ok (.ifCond .lt 11, 3) := by decide +kernel
theorem dX5_go_4 : decode cX5_go 4 = .ok (.iload_n 1, 1) := by decide +kernel
theorem dX5_go_5 : decode cX5_go 5 = .ok (.aload_n 0, 1) := by decide +kernel
theorem dX5_go_6 : decode cX5_go 6 = .ok (.getfield 89, 3) := by decide +kernel
theorem dX5_go_9 : decode cX5_go 9 = .ok (.if_icmp .lt 13, 3) := by decide +kernel
theorem dX5_go_12 : decode cX5_go 12 = .ok (.new 79, 3) := by decide +kernel
theorem dX5_go_15 : decode cX5_go 15 = .ok (.dup, 1) := by decide +kernel
theorem dX5_go_16 : decode cX5_go 16 = .ok (.ldc 166, 2) := by decide +kernel
theorem dX5_go_18 : decode cX5_go 18 = .ok (.invokespecial 83, 3) := by decide +kernel
theorem dX5_go_21 : decode cX5_go 21 = .ok (.athrow, 1) := by decide +kernel
theorem dX5_go_22 : decode cX5_go 22 = .ok (.aload_n 0, 1) := by decide +kernel
theorem dX5_go_23 : decode cX5_go 23 = .ok (.getfield 43, 3) := by decide +kernel
theorem dX5_go_26 : decode cX5_go 26 = .ok (.iload_n 1, 1) := by decide +kernel
theorem dX5_go_27 : decode cX5_go 27 = .ok (.aaload, 1) := by decide +kernel
theorem dX5_go_28 : decode cX5_go 28 = .ok (.astore_n 3, 1) := by decide +kernel
theorem dX5_go_29 : decode cX5_go 29 = .ok (.aload_n 3, 1) := by decide +kernel
theorem dX5_go_30 : decode cX5_go 30 = .ok (.getfield 168, 3) := by decide +kernel
theorem dX5_go_33 : decode cX5_go 33 = .ok (.aload_n 0, 1) := by decide +kernel
theorem dX5_go_34 : decode cX5_go 34 = .ok (.getfield 111, 3) := by decide +kernel
theorem dX5_go_37 : decode cX5_go 37 = .ok (.if_icmp .eq 13, 3) := by decide +kernel
theorem dX5_go_40 : decode cX5_go 40 = .ok (.new 79, 3) := by decide +kernel
theorem dX5_go_43 : decode cX5_go 43 = .ok (.dup, 1) := by decide +kernel
theorem dX5_go_44 : decode cX5_go 44 = .ok (.ldc 171, 2) := by decide +kernel
theorem dX5_go_46 : decode cX5_go 46 = .ok (.invokespecial 83, 3) := by decide +kernel
theorem dX5_go_49 : decode cX5_go 49 = .ok (.athrow, 1) := by decide +kernel
theorem dX5_go_50 : decode cX5_go 50 = .ok (.aload_n 3, 1) := by decide +kernel
theorem dX5_go_51 : decode cX5_go 51 = .ok (.aload_n 0, 1) := by decide +kernel
theorem dX5_go_52 : decode cX5_go 52 = .ok (.getfield 29, 3) := by decide +kernel
theorem dX5_go_55 : decode cX5_go 55 = .ok (.invokevirtual 173, 3) := by decide +kernel
theorem dX5_go_58 : decode cX5_go 58 = .ok (.ifCond .ne 5, 3) := by decide +kernel
theorem dX5_go_61 : decode cX5_go 61 = .ok (.iconst 0, 1) := by decide +kernel
theorem dX5_go_62 : decode cX5_go 62 = .ok (.ireturn, 1) := by decide +kernel
theorem dX5_go_63 : decode cX5_go 63 = .ok (.aload_n 3, 1) := by decide +kernel
theorem dX5_go_64 : decode cX5_go 64 = .ok (.aload_n 0, 1) := by decide +kernel
theorem dX5_go_65 : decode cX5_go 65 = .ok (.getfield 29, 3) := by decide +kernel
theorem dX5_go_68 : decode cX5_go 68 = .ok (.iload_n 2, 1) := by decide +kernel
theorem dX5_go_69 : decode cX5_go 69 = .ok (.invokestatic 72, 3) := by decide +kernel
theorem dX5_go_72 : decode cX5_go 72 = .ok (.invokevirtual 177, 3) := by decide +kernel
theorem dX5_go_75 : decode cX5_go 75 = .ok (.aload_n 0, 1) := by decide +kernel
theorem dX5_go_76 : decode cX5_go 76 = .ok (.aload_n 3, 1) := by decide +kernel
theorem dX5_go_77 : decode cX5_go 77 = .ok (.getfield 181, 3) := by decide +kernel
theorem dX5_go_80 : decode cX5_go 80 = .ok (.putfield 111, 3) := by decide +kernel
theorem dX5_go_83 : decode cX5_go 83 = .ok (.iconst 1, 1) := by decide +kernel
theorem dX5_go_84 : decode cX5_go 84 = .ok (.ireturn, 1) := by decide +kernel
set_option maxRecDepth 20000 in
theorem ggX5_at_X5_requirePlace : GoodIn wsX5_at wsX5_requirePlace := goodIn_ca (goodIn_r _ [7, 8, 9, 10, 11, 12, 13, 14, 15, 16, 17, 18, 19, 20, 21, 22, 23, 24, 25] (by decide +kernel) (by decide +kernel)) (goodIn_sub (fun _ h => List.mem_cons_of_mem _ (List.mem_append_right _ h)) (by decide +kernel))
set_option maxRecDepth 20000 in
theorem gX5_at_X5_requirePlace : GoodIn wsX5_at (wsV RX5 69 RX5 yX5_requirePlace wsX5_requirePlace) := goodIn_app (goodIn_of _ (by decide +kernel)) ggX5_at_X5_requirePlace
theorem dX5_at_0 : decode cX5_at 0 = .ok (.aload_n 0, 1) := by decide +kernel
theorem dX5_at_1 : decode cX5_at 1 = .ok (.iload_n 1, 1) := by decide +kernel
theorem dX5_at_2 : decode cX5_at 2 = .ok (.invokevirtual 69, 3) := by decide +kernel
theorem dX5_at_5 : decode cX5_at 5 = .ok (.iload_n 1, 1) := by decide +kernel
theorem dX5_at_6 : decode cX5_at 6 = .ok (.ifCond .ne 10, 3) := by decide +kernel
theorem dX5_at_9 : decode cX5_at 9 = .ok (.aload_n 0, 1) := by decide +kernel
theorem dX5_at_10 : decode cX5_at 10 = .ok (.getfield 111, 3) := by decide +kernel
theorem dX5_at_13 : decode cX5_at 13 = .ok (.goto 9, 3) := by decide +kernel
theorem dX5_at_16 : decode cX5_at 16 = .ok (.aload_n 0, 1) := by decide +kernel
theorem dX5_at_17 : decode cX5_at 17 = .ok (.getfield 29, 3) := by decide +kernel
theorem dX5_at_20 : decode cX5_at 20 = .ok (.iload_n 1, 1) := by decide +kernel
theorem dX5_at_21 : decode cX5_at 21 = .ok (.iaload, 1) := by decide +kernel
theorem dX5_at_22 : decode cX5_at 22 = .ok (.ireturn, 1) := by decide +kernel
set_option maxRecDepth 20000 in
theorem ggX5_note_X5_requireNode : GoodIn wsX5_note wsX5_requireNode := goodIn_ca (goodIn_r _ [10, 11, 12, 13, 35, 36, 37, 38, 39, 40, 41, 42, 43, 44, 45, 46, 47, 48, 49] (by decide +kernel) (by decide +kernel)) (goodIn_sub (fun _ h => List.mem_cons_of_mem _ (List.mem_append_right _ h)) (by decide +kernel))
set_option maxRecDepth 20000 in
theorem gX5_note_X5_requireNode : GoodIn wsX5_note (wsV RX5 76 RX5 yX5_requireNode wsX5_requireNode) := goodIn_app (goodIn_of _ (by decide +kernel)) ggX5_note_X5_requireNode
set_option maxRecDepth 20000 in
theorem ggX5_note_X2_set : GoodIn wsX5_note wsX2_set := goodIn_r _ [18, 19, 20, 21, 9, 22, 23, 24, 25, 26, 50, 51] (by decide +kernel) (by decide +kernel)
set_option maxRecDepth 20000 in
theorem gX5_note_X2_set : GoodIn wsX5_note (wsV RX5 189 RX2 yX2_set wsX2_set) := goodIn_app (goodIn_of _ (by decide +kernel)) ggX5_note_X2_set
set_option maxRecDepth 20000 in
theorem ggX5_note_X5_clearDraft : GoodIn wsX5_note wsX5_clearDraft := goodIn_r _ [30, 5, 31, 32, 33, 34, 35, 36, 37, 38, 39, 40, 41, 42, 43, 44, 45, 46, 47, 48, 49] (by decide +kernel) (by decide +kernel)
set_option maxRecDepth 20000 in
theorem gX5_note_X5_clearDraft : GoodIn wsX5_note (wsV RX5 101 RX5 yX5_clearDraft wsX5_clearDraft) := goodIn_app (goodIn_of _ (by decide +kernel)) ggX5_note_X5_clearDraft
theorem dX5_note_0 : decode cX5_note 0 = .ok (.aload_n 0, 1) := by decide +kernel
theorem dX5_note_1 : decode cX5_note 1 = .ok (.iload_n 1, 1) := by decide +kernel
theorem dX5_note_2 : decode cX5_note 2 = .ok (.invokevirtual 76, 3) := by decide +kernel
theorem dX5_note_5 : decode cX5_note 5 = .ok (.aload_n 0, 1) := by decide +kernel
theorem dX5_note_6 : decode cX5_note 6 = .ok (.getfield 184, 3) := by decide +kernel
theorem dX5_note_9 : decode cX5_note 9 = .ok (.bipush 24, 2) := by decide +kernel
theorem dX5_note_11 : decode cX5_note 11 = .ok (.if_icmp .lt 13, 3) := by decide +kernel
theorem dX5_note_14 : decode cX5_note 14 = .ok (.new 92, 3) := by decide +kernel
theorem dX5_note_17 : decode cX5_note 17 = .ok (.dup, 1) := by decide +kernel
theorem dX5_note_18 : decode cX5_note 18 = .ok (.ldc 187, 2) := by decide +kernel
theorem dX5_note_20 : decode cX5_note 20 = .ok (.invokespecial 96, 3) := by decide +kernel
theorem dX5_note_23 : decode cX5_note 23 = .ok (.athrow, 1) := by decide +kernel
theorem dX5_note_24 : decode cX5_note 24 = .ok (.aload_n 0, 1) := by decide +kernel
theorem dX5_note_25 : decode cX5_note 25 = .ok (.getfield 50, 3) := by decide +kernel
theorem dX5_note_28 : decode cX5_note 28 = .ok (.aload_n 0, 1) := by decide +kernel
theorem dX5_note_29 : decode cX5_note 29 = .ok (.getfield 184, 3) := by decide +kernel
theorem dX5_note_32 : decode cX5_note 32 = .ok (.aaload, 1) := by decide +kernel
theorem dX5_note_33 : decode cX5_note 33 = .ok (.iload_n 1, 1) := by decide +kernel
theorem dX5_note_34 : decode cX5_note 34 = .ok (.aload_n 0, 1) := by decide +kernel
theorem dX5_note_35 : decode cX5_note 35 = .ok (.getfield 22, 3) := by decide +kernel
theorem dX5_note_38 : decode cX5_note 38 = .ok (.invokevirtual 189, 3) := by decide +kernel
theorem dX5_note_41 : decode cX5_note 41 = .ok (.aload_n 0, 1) := by decide +kernel
theorem dX5_note_42 : decode cX5_note 42 = .ok (.dup, 1) := by decide +kernel
theorem dX5_note_43 : decode cX5_note 43 = .ok (.getfield 184, 3) := by decide +kernel
theorem dX5_note_46 : decode cX5_note 46 = .ok (.iconst 1, 1) := by decide +kernel
theorem dX5_note_47 : decode cX5_note 47 = .ok (.iadd, 1) := by decide +kernel
theorem dX5_note_48 : decode cX5_note 48 = .ok (.putfield 184, 3) := by decide +kernel
theorem dX5_note_51 : decode cX5_note 51 = .ok (.aload_n 0, 1) := by decide +kernel
theorem dX5_note_52 : decode cX5_note 52 = .ok (.invokevirtual 101, 3) := by decide +kernel
theorem dX5_note_55 : decode cX5_note 55 = .ok (.aload_n 0, 1) := by decide +kernel
theorem dX5_note_56 : decode cX5_note 56 = .ok (.getfield 184, 3) := by decide +kernel
theorem dX5_note_59 : decode cX5_note 59 = .ok (.ireturn, 1) := by decide +kernel
set_option maxRecDepth 20000 in
theorem ggX5_noteAll_X5_requireAnalysed : GoodIn wsX5_noteAll wsX5_requireAnalysed := goodIn_ca (goodIn_r _ [9, 10, 11, 12, 59, 60, 61, 62, 63, 64, 65, 66, 67, 68, 69, 70, 71, 72, 73] (by decide +kernel) (by decide +kernel)) (goodIn_sub (fun _ h => List.mem_cons_of_mem _ (List.mem_append_right _ h)) (by decide +kernel))
set_option maxRecDepth 20000 in
theorem gX5_noteAll_X5_requireAnalysed : GoodIn wsX5_noteAll (wsV RX5 127 RX5 yX5_requireAnalysed wsX5_requireAnalysed) := goodIn_app (goodIn_of _ (by decide +kernel)) ggX5_noteAll_X5_requireAnalysed
set_option maxRecDepth 20000 in
theorem ggX5_noteAll_X1_equationCount : GoodIn wsX5_noteAll wsX1_equationCount := goodIn_r _ [17, 18, 19, 74, 75, 76] (by decide +kernel) (by decide +kernel)
set_option maxRecDepth 20000 in
theorem gX5_noteAll_X1_equationCount : GoodIn wsX5_noteAll (wsV RX5 147 RX1 yX1_equationCount wsX1_equationCount) := goodIn_app (goodIn_of _ (by decide +kernel)) ggX5_noteAll_X1_equationCount
set_option maxRecDepth 20000 in
theorem ggX5_noteAll_X5_noteEquations : GoodIn wsX5_noteAll wsX5_noteEquations := goodIn_r _ [23, 3, 24, 25, 26, 27, 4, 13, 14, 15, 16, 17, 18, 19, 28, 29, 30, 31, 32, 33, 34, 35, 36, 37, 38, 39, 8, 40, 41, 42, 43, 44, 45, 46, 47, 48, 49, 50, 51, 52, 53, 54, 55, 56, 57, 58, 59, 60, 61, 62, 63, 64, 65, 66, 67, 68, 69, 70, 71, 72, 73, 74, 75, 76, 77, 78, 79, 80, 81] (by decide +kernel) (by decide +kernel)
set_option maxRecDepth 20000 in
theorem gX5_noteAll_X5_noteEquations : GoodIn wsX5_noteAll (wsV RX5 197 RX5 yX5_noteEquations wsX5_noteEquations) := goodIn_app (goodIn_of _ (by decide +kernel)) ggX5_noteAll_X5_noteEquations
theorem dX5_noteAll_0 : decode cX5_noteAll 0 = .ok (.aload_n 0, 1) := by decide +kernel
theorem dX5_noteAll_1 : decode cX5_noteAll 1 = .ok (.invokevirtual 127, 3) := by decide +kernel
theorem dX5_noteAll_4 : decode cX5_noteAll 4 = .ok (.iconst 0, 1) := by decide +kernel
theorem dX5_noteAll_5 : decode cX5_noteAll 5 = .ok (.istore_n 1, 1) := by decide +kernel
theorem dX5_noteAll_6 : decode cX5_noteAll 6 = .ok (.iconst 0, 1) := by decide +kernel
theorem dX5_noteAll_7 : decode cX5_noteAll 7 = .ok (.istore_n 2, 1) := by decide +kernel
theorem dX5_noteAll_8 : decode cX5_noteAll 8 = .ok (.iload_n 2, 1) := by decide +kernel
theorem dX5_noteAll_9 : decode cX5_noteAll 9 = .ok (.aload_n 0, 1) := by decide +kernel
theorem dX5_noteAll_10 : decode cX5_noteAll 10 = .ok (.getfield 57, 3) := by decide +kernel
theorem dX5_noteAll_13 : decode cX5_noteAll 13 = .ok (.arraylength, 1) := by decide +kernel
theorem dX5_noteAll_14 : decode cX5_noteAll 14 = .ok (.if_icmp .ge 21, 3) := by decide +kernel
theorem dX5_noteAll_17 : decode cX5_noteAll 17 = .ok (.iload_n 1, 1) := by decide +kernel
theorem dX5_noteAll_18 : decode cX5_noteAll 18 = .ok (.aload_n 0, 1) := by decide +kernel
theorem dX5_noteAll_19 : decode cX5_noteAll 19 = .ok (.getfield 57, 3) := by decide +kernel
theorem dX5_noteAll_22 : decode cX5_noteAll 22 = .ok (.iload_n 2, 1) := by decide +kernel
theorem dX5_noteAll_23 : decode cX5_noteAll 23 = .ok (.aaload, 1) := by decide +kernel
theorem dX5_noteAll_24 : decode cX5_noteAll 24 = .ok (.invokevirtual 147, 3) := by decide +kernel
theorem dX5_noteAll_27 : decode cX5_noteAll 27 = .ok (.iadd, 1) := by decide +kernel
theorem dX5_noteAll_28 : decode cX5_noteAll 28 = .ok (.istore_n 1, 1) := by decide +kernel
theorem dX5_noteAll_29 : decode cX5_noteAll 29 = .ok (.iinc 2 1, 3) := by decide +kernel
theorem dX5_noteAll_32 : decode cX5_noteAll 32 = .ok (.goto (-24), 3) := by decide +kernel
theorem dX5_noteAll_35 : decode cX5_noteAll 35 = .ok (.iload_n 1, 1) := by decide +kernel
theorem dX5_noteAll_36 : decode cX5_noteAll 36 = .ok (.bipush 24, 2) := by decide +kernel
theorem dX5_noteAll_38 : decode cX5_noteAll 38 = .ok (.if_icmp .le 13, 3) := by decide +kernel
theorem dX5_noteAll_41 : decode cX5_noteAll 41 = .ok (.new 192, 3) := by decide +kernel
theorem dX5_noteAll_44 : decode cX5_noteAll 44 = .ok (.dup, 1) := by decide +kernel
theorem dX5_noteAll_45 : decode cX5_noteAll 45 = .ok (.ldc 194, 2) := by decide +kernel
theorem dX5_noteAll_47 : decode cX5_noteAll 47 = .ok (.invokespecial 196, 3) := by decide +kernel
theorem dX5_noteAll_50 : decode cX5_noteAll 50 = .ok (.athrow, 1) := by decide +kernel
theorem dX5_noteAll_51 : decode cX5_noteAll 51 = .ok (.aload_n 0, 1) := by decide +kernel
theorem dX5_noteAll_52 : decode cX5_noteAll 52 = .ok (.iconst 0, 1) := by decide +kernel
theorem dX5_noteAll_53 : decode cX5_noteAll 53 = .ok (.putfield 184, 3) := by decide +kernel
theorem dX5_noteAll_56 : decode cX5_noteAll 56 = .ok (.iconst 0, 1) := by decide +kernel
theorem dX5_noteAll_57 : decode cX5_noteAll 57 = .ok (.istore_n 2, 1) := by decide +kernel
theorem dX5_noteAll_58 : decode cX5_noteAll 58 = .ok (.iload_n 2, 1) := by decide +kernel
theorem dX5_noteAll_59 : decode cX5_noteAll 59 = .ok (.aload_n 0, 1) := by decide +kernel
theorem dX5_noteAll_60 : decode cX5_noteAll 60 = .ok (.getfield 57, 3) := by decide +kernel
theorem dX5_noteAll_63 : decode cX5_noteAll 63 = .ok (.arraylength, 1) := by decide +kernel
theorem dX5_noteAll_64 : decode cX5_noteAll 64 = .ok (.if_icmp .ge 14, 3) := by decide +kernel
theorem dX5_noteAll_67 : decode cX5_noteAll 67 = .ok (.aload_n 0, 1) := by decide +kernel
theorem dX5_noteAll_68 : decode cX5_noteAll 68 = .ok (.iload_n 2, 1) := by decide +kernel
theorem dX5_noteAll_69 : decode cX5_noteAll 69 = .ok (.invokevirtual 197, 3) := by decide +kernel
theorem dX5_noteAll_72 : decode cX5_noteAll 72 = .ok (.iinc 2 1, 3) := by decide +kernel
theorem dX5_noteAll_75 : decode cX5_noteAll 75 = .ok (.goto (-17), 3) := by decide +kernel
theorem dX5_noteAll_78 : decode cX5_noteAll 78 = .ok (.aload_n 0, 1) := by decide +kernel
theorem dX5_noteAll_79 : decode cX5_noteAll 79 = .ok (.getfield 184, 3) := by decide +kernel
theorem dX5_noteAll_82 : decode cX5_noteAll 82 = .ok (.ireturn, 1) := by decide +kernel
theorem dX5_forget_0 : decode cX5_forget 0 = .ok (.aload_n 0, 1) := by decide +kernel
theorem dX5_forget_1 : decode cX5_forget 1 = .ok (.getfield 184, 3) := by decide +kernel
theorem dX5_forget_4 : decode cX5_forget 4 = .ok (.istore_n 1, 1) := by decide +kernel
theorem dX5_forget_5 : decode cX5_forget 5 = .ok (.aload_n 0, 1) := by decide +kernel
theorem dX5_forget_6 : decode cX5_forget 6 = .ok (.iconst 0, 1) := by decide +kernel
theorem dX5_forget_7 : decode cX5_forget 7 = .ok (.putfield 184, 3) := by decide +kernel
theorem dX5_forget_10 : decode cX5_forget 10 = .ok (.iload_n 1, 1) := by decide +kernel
theorem dX5_forget_11 : decode cX5_forget 11 = .ok (.ireturn, 1) := by decide +kernel
set_option maxRecDepth 20000 in
theorem ggX5_sound_X5_keepsNotes : GoodIn wsX5_sound wsX5_keepsNotes := goodIn_r _ [11, 1, 2, 3, 12, 13, 14, 15, 16, 10, 17, 18, 19, 20, 21, 22, 23, 24, 25, 26, 27, 28, 29, 30, 31, 32, 33, 34, 35, 36, 37, 38, 39, 40, 41, 42, 43, 44, 45, 46, 47, 48, 49, 50, 51, 52, 53, 54, 55, 56, 57, 58, 59, 60, 61, 62, 63, 64, 65, 66, 67, 68, 69, 70, 71, 72, 73, 74, 75, 76, 77, 78, 79, 80, 81, 82, 83, 84, 85, 86, 87, 88, 89, 90, 91, 92, 93, 94, 95, 96, 97, 98, 99, 100, 101, 102, 103, 104, 105, 106, 107, 108] (by decide +kernel) (by decide +kernel)
set_option maxRecDepth 20000 in
theorem gX5_sound_X5_keepsNotes : GoodIn wsX5_sound (wsV RX5 203 RX5 yX5_keepsNotes wsX5_keepsNotes) := goodIn_app (goodIn_of _ (by decide +kernel)) ggX5_sound_X5_keepsNotes
theorem dX5_sound_0 : decode cX5_sound 0 = .ok (.iconst 0, 1) := by decide +kernel
theorem dX5_sound_1 : decode cX5_sound 1 = .ok (.istore_n 1, 1) := by decide +kernel
theorem dX5_sound_2 : decode cX5_sound 2 = .ok (.iload_n 1, 1) := by decide +kernel
theorem dX5_sound_3 : decode cX5_sound 3 = .ok (.aload_n 0, 1) := by decide +kernel
theorem dX5_sound_4 : decode cX5_sound 4 = .ok (.getfield 184, 3) := by decide +kernel
theorem dX5_sound_7 : decode cX5_sound 7 = .ok (.if_icmp .ge 27, 3) := by decide +kernel
theorem dX5_sound_10 : decode cX5_sound 10 = .ok (.aload_n 0, 1) := by decide +kernel
theorem dX5_sound_11 : decode cX5_sound 11 = .ok (.getfield 50, 3) := by decide +kernel
theorem dX5_sound_14 : decode cX5_sound 14 = .ok (.iload_n 1, 1) := by decide +kernel
theorem dX5_sound_15 : decode cX5_sound 15 = .ok (.aaload, 1) := by decide +kernel
theorem dX5_sound_16 : decode cX5_sound 16 = .ok (.getfield 200, 3) := by decide +kernel
theorem dX5_sound_19 : decode cX5_sound 19 = .ok (.aload_n 0, 1) := by decide +kernel
theorem dX5_sound_20 : decode cX5_sound 20 = .ok (.getfield 108, 3) := by decide +kernel
theorem dX5_sound_23 : decode cX5_sound 23 = .ok (.if_icmp .ne 5, 3) := by decide +kernel
theorem dX5_sound_26 : decode cX5_sound 26 = .ok (.iconst 0, 1) := by decide +kernel
theorem dX5_sound_27 : decode cX5_sound 27 = .ok (.ireturn, 1) := by decide +kernel
theorem dX5_sound_28 : decode cX5_sound 28 = .ok (.iinc 1 1, 3) := by decide +kernel
theorem dX5_sound_31 : decode cX5_sound 31 = .ok (.goto (-29), 3) := by decide +kernel
theorem dX5_sound_34 : decode cX5_sound 34 = .ok (.iconst 0, 1) := by decide +kernel
theorem dX5_sound_35 : decode cX5_sound 35 = .ok (.istore_n 1, 1) := by decide +kernel
theorem dX5_sound_36 : decode cX5_sound 36 = .ok (.iload_n 1, 1) := by decide +kernel
theorem dX5_sound_37 : decode cX5_sound 37 = .ok (.aload_n 0, 1) := by decide +kernel
theorem dX5_sound_38 : decode cX5_sound 38 = .ok (.getfield 89, 3) := by decide +kernel
theorem dX5_sound_41 : decode cX5_sound 41 = .ok (.if_icmp .ge 24, 3) := by decide +kernel
theorem dX5_sound_44 : decode cX5_sound 44 = .ok (.aload_n 0, 1) := by decide +kernel
theorem dX5_sound_45 : decode cX5_sound 45 = .ok (.aload_n 0, 1) := by decide +kernel
theorem dX5_sound_46 : decode cX5_sound 46 = .ok (.getfield 43, 3) := by decide +kernel
theorem dX5_sound_49 : decode cX5_sound 49 = .ok (.iload_n 1, 1) := by decide +kernel
theorem dX5_sound_50 : decode cX5_sound 50 = .ok (.aaload, 1) := by decide +kernel
theorem dX5_sound_51 : decode cX5_sound 51 = .ok (.invokevirtual 203, 3) := by decide +kernel
theorem dX5_sound_54 : decode cX5_sound 54 = .ok (.ifCond .ne 5, 3) := by decide +kernel
theorem dX5_sound_57 : decode cX5_sound 57 = .ok (.iconst 0, 1) := by decide +kernel
theorem dX5_sound_58 : decode cX5_sound 58 = .ok (.ireturn, 1) := by decide +kernel
theorem dX5_sound_59 : decode cX5_sound 59 = .ok (.iinc 1 1, 3) := by decide +kernel
theorem dX5_sound_62 : decode cX5_sound 62 = .ok (.goto (-26), 3) := by decide +kernel
theorem dX5_sound_65 : decode cX5_sound 65 = .ok (.iconst 1, 1) := by decide +kernel
theorem dX5_sound_66 : decode cX5_sound 66 = .ok (.ireturn, 1) := by decide +kernel
theorem dX5_requireNode_0 : decode cX5_requireNode 0 = .ok (.iload_n 1, 1) := by decide +kernel
theorem dX5_requireNode_1 : decode cX5_requireNode 1 = .ok (.ifCond .lt 12, 3) := by decide +kernel
theorem dX5_requireNode_4 : decode cX5_requireNode 4 = .ok (.iload_n 1, 1) := by decide +kernel
theorem dX5_requireNode_5 : decode cX5_requireNode 5 = .ok (.aload_n 0, 1) := by decide +kernel
theorem dX5_requireNode_6 : decode cX5_requireNode 6 = .ok (.getfield 57, 3) := by decide +kernel
theorem dX5_requireNode_9 : decode cX5_requireNode 9 = .ok (.arraylength, 1) := by decide +kernel
theorem dX5_requireNode_10 : decode cX5_requireNode 10 = .ok (.if_icmp .lt 13, 3) := by decide +kernel
theorem dX5_requireNode_13 : decode cX5_requireNode 13 = .ok (.new 79, 3) := by decide +kernel
theorem dX5_requireNode_16 : decode cX5_requireNode 16 = .ok (.dup, 1) := by decide +kernel
theorem dX5_requireNode_17 : decode cX5_requireNode 17 = .ok (.ldc 207, 2) := by decide +kernel
theorem dX5_requireNode_19 : decode cX5_requireNode 19 = .ok (.invokespecial 83, 3) := by decide +kernel
theorem dX5_requireNode_22 : decode cX5_requireNode 22 = .ok (.athrow, 1) := by decide +kernel
theorem dX5_requireNode_23 : decode cX5_requireNode 23 = .ok (.return_, 1) := by decide +kernel
theorem dX5_requireVariable_0 : decode cX5_requireVariable 0 = .ok (.iload_n 1, 1) := by decide +kernel
theorem dX5_requireVariable_1 : decode cX5_requireVariable 1 = .ok (.iconst 1, 1) := by decide +kernel
theorem dX5_requireVariable_2 : decode cX5_requireVariable 2 = .ok (.if_icmp .lt 11, 3) := by decide +kernel
theorem dX5_requireVariable_5 : decode cX5_requireVariable 5 = .ok (.iload_n 1, 1) := by decide +kernel
theorem dX5_requireVariable_6 : decode cX5_requireVariable 6 = .ok (.aload_n 0, 1) := by decide +kernel
theorem dX5_requireVariable_7 : decode cX5_requireVariable 7 = .ok (.getfield 18, 3) := by decide +kernel
theorem dX5_requireVariable_10 : decode cX5_requireVariable 10 = .ok (.if_icmp .le 13, 3) := by decide +kernel
theorem dX5_requireVariable_13 : decode cX5_requireVariable 13 = .ok (.new 79, 3) := by decide +kernel
theorem dX5_requireVariable_16 : decode cX5_requireVariable 16 = .ok (.dup, 1) := by decide +kernel
theorem dX5_requireVariable_17 : decode cX5_requireVariable 17 = .ok (.ldc 209, 2) := by decide +kernel
theorem dX5_requireVariable_19 : decode cX5_requireVariable 19 = .ok (.invokespecial 83, 3) := by decide +kernel
theorem dX5_requireVariable_22 : decode cX5_requireVariable 22 = .ok (.athrow, 1) := by decide +kernel
theorem dX5_requireVariable_23 : decode cX5_requireVariable 23 = .ok (.return_, 1) := by decide +kernel
theorem dX5_requirePlace_0 : decode cX5_requirePlace 0 = .ok (.iload_n 1, 1) := by decide +kernel
theorem dX5_requirePlace_1 : decode cX5_requirePlace 1 = .ok (.ifCond .lt 11, 3) := by decide +kernel
theorem dX5_requirePlace_4 : decode cX5_requirePlace 4 = .ok (.iload_n 1, 1) := by decide +kernel
theorem dX5_requirePlace_5 : decode cX5_requirePlace 5 = .ok (.aload_n 0, 1) := by decide +kernel
theorem dX5_requirePlace_6 : decode cX5_requirePlace 6 = .ok (.getfield 18, 3) := by decide +kernel
theorem dX5_requirePlace_9 : decode cX5_requirePlace 9 = .ok (.if_icmp .le 13, 3) := by decide +kernel
theorem dX5_requirePlace_12 : decode cX5_requirePlace 12 = .ok (.new 79, 3) := by decide +kernel
theorem dX5_requirePlace_15 : decode cX5_requirePlace 15 = .ok (.dup, 1) := by decide +kernel
theorem dX5_requirePlace_16 : decode cX5_requirePlace 16 = .ok (.ldc 211, 2) := by decide +kernel
theorem dX5_requirePlace_18 : decode cX5_requirePlace 18 = .ok (.invokespecial 83, 3) := by decide +kernel
theorem dX5_requirePlace_21 : decode cX5_requirePlace 21 = .ok (.athrow, 1) := by decide +kernel
theorem dX5_requirePlace_22 : decode cX5_requirePlace 22 = .ok (.return_, 1) := by decide +kernel
theorem dX5_requireAnalysed_0 : decode cX5_requireAnalysed 0 = .ok (.aload_n 0, 1) := by decide +kernel
theorem dX5_requireAnalysed_1 : decode cX5_requireAnalysed 1 = .ok (.getfield 104, 3) := by decide +kernel
theorem dX5_requireAnalysed_4 : decode cX5_requireAnalysed 4 = .ok (.ifCond .ne 13, 3) := by decide +kernel
theorem dX5_requireAnalysed_7 : decode cX5_requireAnalysed 7 = .ok (.new 92, 3) := by decide +kernel
theorem dX5_requireAnalysed_10 : decode cX5_requireAnalysed 10 = .ok (.dup, 1) := by decide +kernel
theorem dX5_requireAnalysed_11 : decode cX5_requireAnalysed 11 = .ok (.ldc 213, 2) := by decide +kernel
theorem dX5_requireAnalysed_13 : decode cX5_requireAnalysed 13 = .ok (.invokespecial 96, 3) := by decide +kernel
theorem dX5_requireAnalysed_16 : decode cX5_requireAnalysed 16 = .ok (.athrow, 1) := by decide +kernel
theorem dX5_requireAnalysed_17 : decode cX5_requireAnalysed 17 = .ok (.return_, 1) := by decide +kernel
set_option maxRecDepth 20000 in
theorem ggX5_clearDraft_J7_fill_53178 : GoodIn wsX5_clearDraft wsJ7_fill_53178 := goodIn_r _ [5] (by decide +kernel) (by decide +kernel)
set_option maxRecDepth 20000 in
theorem gX5_clearDraft_J7_fill_53178 : GoodIn wsX5_clearDraft (va_wsS RX5 215 yJ7_fill_53178 wsJ7_fill_53178) := goodIn_app (goodIn_of _ (by decide +kernel)) ggX5_clearDraft_J7_fill_53178
theorem dX5_clearDraft_0 : decode cX5_clearDraft 0 = .ok (.aload_n 0, 1) := by decide +kernel
theorem dX5_clearDraft_1 : decode cX5_clearDraft 1 = .ok (.getfield 22, 3) := by decide +kernel
theorem dX5_clearDraft_4 : decode cX5_clearDraft 4 = .ok (.iconst 0, 1) := by decide +kernel
theorem dX5_clearDraft_5 : decode cX5_clearDraft 5 = .ok (.invokestatic 215, 3) := by decide +kernel
theorem dX5_clearDraft_8 : decode cX5_clearDraft 8 = .ok (.return_, 1) := by decide +kernel
set_option maxRecDepth 20000 in
theorem ggX5_forgetPoints_X1_clear : GoodIn wsX5_forgetPoints wsX1_clear := goodIn_r _ [7, 8, 9, 10, 11, 12, 13, 14, 15, 31, 32, 33, 34, 35, 36] (by decide +kernel) (by decide +kernel)
set_option maxRecDepth 20000 in
theorem gX5_forgetPoints_X1_clear : GoodIn wsX5_forgetPoints (wsV RX5 220 RX1 yX1_clear wsX1_clear) := goodIn_app (goodIn_of _ (by decide +kernel)) ggX5_forgetPoints_X1_clear
theorem dX5_forgetPoints_0 : decode cX5_forgetPoints 0 = .ok (.aload_n 0, 1) := by decide +kernel
theorem dX5_forgetPoints_1 : decode cX5_forgetPoints 1 = .ok (.iconst 0, 1) := by decide +kernel
theorem dX5_forgetPoints_2 : decode cX5_forgetPoints 2 = .ok (.putfield 120, 3) := by decide +kernel
theorem dX5_forgetPoints_5 : decode cX5_forgetPoints 5 = .ok (.iconst 0, 1) := by decide +kernel
theorem dX5_forgetPoints_6 : decode cX5_forgetPoints 6 = .ok (.istore_n 1, 1) := by decide +kernel
theorem dX5_forgetPoints_7 : decode cX5_forgetPoints 7 = .ok (.iload_n 1, 1) := by decide +kernel
theorem dX5_forgetPoints_8 : decode cX5_forgetPoints 8 = .ok (.aload_n 0, 1) := by decide +kernel
theorem dX5_forgetPoints_9 : decode cX5_forgetPoints 9 = .ok (.getfield 57, 3) := by decide +kernel
theorem dX5_forgetPoints_12 : decode cX5_forgetPoints 12 = .ok (.arraylength, 1) := by decide +kernel
theorem dX5_forgetPoints_13 : decode cX5_forgetPoints 13 = .ok (.if_icmp .ge 18, 3) := by decide +kernel
theorem dX5_forgetPoints_16 : decode cX5_forgetPoints 16 = .ok (.aload_n 0, 1) := by decide +kernel
theorem dX5_forgetPoints_17 : decode cX5_forgetPoints 17 = .ok (.getfield 57, 3) := by decide +kernel
theorem dX5_forgetPoints_20 : decode cX5_forgetPoints 20 = .ok (.iload_n 1, 1) := by decide +kernel
theorem dX5_forgetPoints_21 : decode cX5_forgetPoints 21 = .ok (.aaload, 1) := by decide +kernel
theorem dX5_forgetPoints_22 : decode cX5_forgetPoints 22 = .ok (.invokevirtual 220, 3) := by decide +kernel
theorem dX5_forgetPoints_25 : decode cX5_forgetPoints 25 = .ok (.iinc 1 1, 3) := by decide +kernel
theorem dX5_forgetPoints_28 : decode cX5_forgetPoints 28 = .ok (.goto (-21), 3) := by decide +kernel
theorem dX5_forgetPoints_31 : decode cX5_forgetPoints 31 = .ok (.return_, 1) := by decide +kernel
set_option maxRecDepth 20000 in
theorem ggX5_addFirstPoints_J7_fill_53178 : GoodIn wsX5_addFirstPoints wsJ7_fill_53178 := goodIn_r _ [7] (by decide +kernel) (by decide +kernel)
set_option maxRecDepth 20000 in
theorem gX5_addFirstPoints_J7_fill_53178 : GoodIn wsX5_addFirstPoints (va_wsS RX5 215 yJ7_fill_53178 wsJ7_fill_53178) := goodIn_app (goodIn_of _ (by decide +kernel)) ggX5_addFirstPoints_J7_fill_53178
set_option maxRecDepth 20000 in
theorem ggX5_addFirstPoints_X5_addPoint : GoodIn wsX5_addFirstPoints wsX5_addPoint := goodIn_r _ [12, 13, 14, 15, 16, 17, 18, 19, 20, 21, 22, 23, 24, 25, 26, 27, 28, 29, 30, 31, 32, 11, 33, 34, 35, 36, 37, 38, 39, 40, 41, 42, 43, 44, 45, 5, 6, 7, 46, 47, 48, 49, 50, 51, 52, 53, 54, 55, 56, 57, 58, 59, 60, 61, 62, 63, 64, 65, 66, 67, 68, 69, 70, 71, 72, 73, 74, 75, 76, 77, 78, 79, 80, 81, 82] (by decide +kernel) (by decide +kernel)
set_option maxRecDepth 20000 in
theorem gX5_addFirstPoints_X5_addPoint : GoodIn wsX5_addFirstPoints (wsV RX5 223 RX5 yX5_addPoint wsX5_addPoint) := goodIn_app (goodIn_of _ (by decide +kernel)) ggX5_addFirstPoints_X5_addPoint
theorem dX5_addFirstPoints_0 : decode cX5_addFirstPoints 0 = .ok (.iconst 0, 1) := by decide +kernel
theorem dX5_addFirstPoints_1 : decode cX5_addFirstPoints 1 = .ok (.istore_n 1, 1) := by decide +kernel
theorem dX5_addFirstPoints_2 : decode cX5_addFirstPoints 2 = .ok (.iload_n 1, 1) := by decide +kernel
theorem dX5_addFirstPoints_3 : decode cX5_addFirstPoints 3 = .ok (.aload_n 0, 1) := by decide +kernel
theorem dX5_addFirstPoints_4 : decode cX5_addFirstPoints 4 = .ok (.getfield 18, 3) := by decide +kernel
theorem dX5_addFirstPoints_7 : decode cX5_addFirstPoints 7 = .ok (.if_icmp .gt 44, 3) := by decide +kernel
theorem dX5_addFirstPoints_10 : decode cX5_addFirstPoints 10 = .ok (.aload_n 0, 1) := by decide +kernel
theorem dX5_addFirstPoints_11 : decode cX5_addFirstPoints 11 = .ok (.getfield 26, 3) := by decide +kernel
theorem dX5_addFirstPoints_14 : decode cX5_addFirstPoints 14 = .ok (.iconst 0, 1) := by decide +kernel
theorem dX5_addFirstPoints_15 : decode cX5_addFirstPoints 15 = .ok (.invokestatic 215, 3) := by decide +kernel
theorem dX5_addFirstPoints_18 : decode cX5_addFirstPoints 18 = .ok (.aload_n 0, 1) := by decide +kernel
theorem dX5_addFirstPoints_19 : decode cX5_addFirstPoints 19 = .ok (.getfield 26, 3) := by decide +kernel
theorem dX5_addFirstPoints_22 : decode cX5_addFirstPoints 22 = .ok (.iload_n 1, 1) := by decide +kernel
theorem dX5_addFirstPoints_23 : decode cX5_addFirstPoints 23 = .ok (.iconst 1, 1) := by decide +kernel
theorem dX5_addFirstPoints_24 : decode cX5_addFirstPoints 24 = .ok (.iastore, 1) := by decide +kernel
theorem dX5_addFirstPoints_25 : decode cX5_addFirstPoints 25 = .ok (.aload_n 0, 1) := by decide +kernel
theorem dX5_addFirstPoints_26 : decode cX5_addFirstPoints 26 = .ok (.getfield 26, 3) := by decide +kernel
theorem dX5_addFirstPoints_29 : decode cX5_addFirstPoints 29 = .ok (.iconst 0, 1) := by decide +kernel
theorem dX5_addFirstPoints_30 : decode cX5_addFirstPoints 30 = .ok (.iconst 1, 1) := by decide +kernel
theorem dX5_addFirstPoints_31 : decode cX5_addFirstPoints 31 = .ok (.iastore, 1) := by decide +kernel
theorem dX5_addFirstPoints_32 : decode cX5_addFirstPoints 32 = .ok (.aload_n 0, 1) := by decide +kernel
theorem dX5_addFirstPoints_33 : decode cX5_addFirstPoints 33 = .ok (.aload_n 0, 1) := by decide +kernel
theorem dX5_addFirstPoints_34 : decode cX5_addFirstPoints 34 = .ok (.getfield 108, 3) := by decide +kernel
theorem dX5_addFirstPoints_37 : decode cX5_addFirstPoints 37 = .ok (.aload_n 0, 1) := by decide +kernel
theorem dX5_addFirstPoints_38 : decode cX5_addFirstPoints 38 = .ok (.getfield 26, 3) := by decide +kernel
theorem dX5_addFirstPoints_41 : decode cX5_addFirstPoints 41 = .ok (.iconst (-1), 1) := by decide +kernel
theorem dX5_addFirstPoints_42 : decode cX5_addFirstPoints 42 = .ok (.invokevirtual 223, 3) := by decide +kernel
theorem dX5_addFirstPoints_45 : decode cX5_addFirstPoints 45 = .ok (.iinc 1 1, 3) := by decide +kernel
theorem dX5_addFirstPoints_48 : decode cX5_addFirstPoints 48 = .ok (.goto (-46), 3) := by decide +kernel
theorem dX5_addFirstPoints_51 : decode cX5_addFirstPoints 51 = .ok (.return_, 1) := by decide +kernel
set_option maxRecDepth 20000 in
theorem ggX5_workOff_X5_follow : GoodIn wsX5_workOff wsX5_follow := goodIn_r _ [10, 11, 12, 2, 4, 13, 14, 15, 16, 9, 17, 18, 19, 20, 21, 22, 23, 24, 25, 26, 27, 28, 29, 30, 31, 32, 33, 34, 35, 36, 37, 38, 39, 40, 41, 42, 43, 44, 45, 46, 47, 48, 49, 50, 51, 52, 53, 54, 55, 56, 57, 58, 59, 60, 61, 62, 63, 64, 65, 66, 67, 68, 69, 70, 71, 72, 73, 74, 75, 76, 77, 98, 99, 100, 101, 78, 79, 80, 81, 82, 83, 84, 85, 86, 87, 88, 89, 90, 91, 92, 93, 94, 95, 96, 97, 102, 103, 104, 105, 106, 107] (by decide +kernel) (by decide +kernel)
set_option maxRecDepth 20000 in
theorem gX5_workOff_X5_follow : GoodIn wsX5_workOff (wsV RX5 228 RX5 yX5_follow wsX5_follow) := goodIn_app (goodIn_of _ (by decide +kernel)) ggX5_workOff_X5_follow
theorem dX5_workOff_0 : decode cX5_workOff 0 = .ok (.iconst 0, 1) := by decide +kernel
theorem dX5_workOff_1 : decode cX5_workOff 1 = .ok (.istore_n 2, 1) := by decide +kernel
theorem dX5_workOff_2 : decode cX5_workOff 2 = .ok (.iload_n 2, 1) := by decide +kernel
theorem dX5_workOff_3 : decode cX5_workOff 3 = .ok (.aload_n 0, 1) := by decide +kernel
theorem dX5_workOff_4 : decode cX5_workOff 4 = .ok (.getfield 89, 3) := by decide +kernel
theorem dX5_workOff_7 : decode cX5_workOff 7 = .ok (.if_icmp .ge 52, 3) := by decide +kernel
theorem dX5_workOff_10 : decode cX5_workOff 10 = .ok (.aload_n 0, 1) := by decide +kernel
theorem dX5_workOff_11 : decode cX5_workOff 11 = .ok (.getfield 43, 3) := by decide +kernel
theorem dX5_workOff_14 : decode cX5_workOff 14 = .ok (.iload_n 2, 1) := by decide +kernel
theorem dX5_workOff_15 : decode cX5_workOff 15 = .ok (.aaload, 1) := by decide +kernel
theorem dX5_workOff_16 : decode cX5_workOff 16 = .ok (.getfield 168, 3) := by decide +kernel
theorem dX5_workOff_19 : decode cX5_workOff 19 = .ok (.aload_n 1, 1) := by decide +kernel
theorem dX5_workOff_20 : decode cX5_workOff 20 = .ok (.getfield 227, 3) := by decide +kernel
theorem dX5_workOff_23 : decode cX5_workOff 23 = .ok (.if_icmp .ne 30, 3) := by decide +kernel
theorem dX5_workOff_26 : decode cX5_workOff 26 = .ok (.aload_n 0, 1) := by decide +kernel
theorem dX5_workOff_27 : decode cX5_workOff 27 = .ok (.iload_n 2, 1) := by decide +kernel
theorem dX5_workOff_28 : decode cX5_workOff 28 = .ok (.aload_n 1, 1) := by decide +kernel
theorem dX5_workOff_29 : decode cX5_workOff 29 = .ok (.iconst 0, 1) := by decide +kernel
theorem dX5_workOff_30 : decode cX5_workOff 30 = .ok (.invokevirtual 228, 3) := by decide +kernel
theorem dX5_workOff_33 : decode cX5_workOff 33 = .ok (.aload_n 0, 1) := by decide +kernel
theorem dX5_workOff_34 : decode cX5_workOff 34 = .ok (.getfield 43, 3) := by decide +kernel
theorem dX5_workOff_37 : decode cX5_workOff 37 = .ok (.iload_n 2, 1) := by decide +kernel
theorem dX5_workOff_38 : decode cX5_workOff 38 = .ok (.aaload, 1) := by decide +kernel
theorem dX5_workOff_39 : decode cX5_workOff 39 = .ok (.getfield 232, 3) := by decide +kernel
theorem dX5_workOff_42 : decode cX5_workOff 42 = .ok (.iconst 2, 1) := by decide +kernel
theorem dX5_workOff_43 : decode cX5_workOff 43 = .ok (.if_icmp .ne 10, 3) := by decide +kernel
theorem dX5_workOff_46 : decode cX5_workOff 46 = .ok (.aload_n 0, 1) := by decide +kernel
theorem dX5_workOff_47 : decode cX5_workOff 47 = .ok (.iload_n 2, 1) := by decide +kernel
theorem dX5_workOff_48 : decode cX5_workOff 48 = .ok (.aload_n 1, 1) := by decide +kernel
theorem dX5_workOff_49 : decode cX5_workOff 49 = .ok (.iconst 1, 1) := by decide +kernel
theorem dX5_workOff_50 : decode cX5_workOff 50 = .ok (.invokevirtual 228, 3) := by decide +kernel
theorem dX5_workOff_53 : decode cX5_workOff 53 = .ok (.iinc 2 1, 3) := by decide +kernel
theorem dX5_workOff_56 : decode cX5_workOff 56 = .ok (.goto (-54), 3) := by decide +kernel
theorem dX5_workOff_59 : decode cX5_workOff 59 = .ok (.return_, 1) := by decide +kernel
set_option maxRecDepth 20000 in
theorem ggX5_follow_X5_copy : GoodIn wsX5_follow wsX5_copy := goodIn_r _ [10, 11, 12, 13, 14] (by decide +kernel) (by decide +kernel)
set_option maxRecDepth 20000 in
theorem gX5_follow_X5_copy : GoodIn wsX5_follow (va_wsS RX5 235 yX5_copy wsX5_copy) := goodIn_app (goodIn_of _ (by decide +kernel)) ggX5_follow_X5_copy
set_option maxRecDepth 20000 in
theorem ggX5_follow_X0_step : GoodIn wsX5_follow wsX0_step := goodIn_r _ [19, 20, 21, 22, 23, 9, 24, 25, 90, 91, 92, 93, 94] (by decide +kernel) (by decide +kernel)
set_option maxRecDepth 20000 in
theorem gX5_follow_X0_step : GoodIn wsX5_follow (wsV RX5 177 RX0 yX0_step wsX0_step) := goodIn_app (goodIn_of _ (by decide +kernel)) ggX5_follow_X0_step
set_option maxRecDepth 20000 in
theorem ggX5_follow_X5_addPoint : GoodIn wsX5_follow wsX5_addPoint := goodIn_r _ [29, 30, 31, 32, 33, 34, 35, 36, 37, 38, 39, 40, 41, 42, 43, 44, 45, 46, 47, 48, 8, 9, 10, 11, 12, 13, 14, 49, 50, 25, 51, 52, 53, 54, 55, 56, 57, 58, 59, 60, 61, 62, 63, 64, 65, 66, 67, 68, 69, 70, 75, 76, 77, 78, 79, 80, 81, 82, 83, 84, 85, 86, 87, 88, 89, 95, 96, 97, 98, 99, 100, 71, 72, 73, 74] (by decide +kernel) (by decide +kernel)
set_option maxRecDepth 20000 in
theorem gX5_follow_X5_addPoint : GoodIn wsX5_follow (wsV RX5 223 RX5 yX5_addPoint wsX5_addPoint) := goodIn_app (goodIn_of _ (by decide +kernel)) ggX5_follow_X5_addPoint
theorem dX5_follow_0 : decode cX5_follow 0 = .ok (.aload_n 2, 1) := by decide +kernel
theorem dX5_follow_1 : decode cX5_follow 1 = .ok (.getfield 144, 3) := by decide +kernel
theorem dX5_follow_4 : decode cX5_follow 4 = .ok (.aload_n 0, 1) := by decide +kernel
theorem dX5_follow_5 : decode cX5_follow 5 = .ok (.getfield 26, 3) := by decide +kernel
theorem dX5_follow_8 : decode cX5_follow 8 = .ok (.invokestatic 235, 3) := by decide +kernel
theorem dX5_follow_11 : decode cX5_follow 11 = .ok (.aload_n 0, 1) := by decide +kernel
theorem dX5_follow_12 : decode cX5_follow 12 = .ok (.getfield 43, 3) := by decide +kernel
theorem dX5_follow_15 : decode cX5_follow 15 = .ok (.iload_n 1, 1) := by decide +kernel
theorem dX5_follow_16 : decode cX5_follow 16 = .ok (.aaload, 1) := by decide +kernel
theorem dX5_follow_17 : decode cX5_follow 17 = .ok (.aload_n 0, 1) := by decide +kernel
theorem dX5_follow_18 : decode cX5_follow 18 = .ok (.getfield 26, 3) := by decide +kernel
theorem dX5_follow_21 : decode cX5_follow 21 = .ok (.iload_n 3, 1) := by decide +kernel
theorem dX5_follow_22 : decode cX5_follow 22 = .ok (.invokevirtual 177, 3) := by decide +kernel
theorem dX5_follow_25 : decode cX5_follow 25 = .ok (.sipush 10000, 3) := by decide +kernel
theorem dX5_follow_28 : decode cX5_follow 28 = .ok (.iload_n 1, 1) := by decide +kernel
theorem dX5_follow_29 : decode cX5_follow 29 = .ok (.imul, 1) := by decide +kernel
theorem dX5_follow_30 : decode cX5_follow 30 = .ok (.sipush 1000, 3) := by decide +kernel
theorem dX5_follow_33 : decode cX5_follow 33 = .ok (.aload_n 2, 1) := by decide +kernel
theorem dX5_follow_34 : decode cX5_follow 34 = .ok (.getfield 227, 3) := by decide +kernel
theorem dX5_follow_37 : decode cX5_follow 37 = .ok (.imul, 1) := by decide +kernel
theorem dX5_follow_38 : decode cX5_follow 38 = .ok (.iadd, 1) := by decide +kernel
theorem dX5_follow_39 : decode cX5_follow 39 = .ok (.bipush 10, 2) := by decide +kernel
theorem dX5_follow_41 : decode cX5_follow 41 = .ok (.aload_n 2, 1) := by decide +kernel
theorem dX5_follow_42 : decode cX5_follow 42 = .ok (.getfield 239, 3) := by decide +kernel
theorem dX5_follow_45 : decode cX5_follow 45 = .ok (.imul, 1) := by decide +kernel
theorem dX5_follow_46 : decode cX5_follow 46 = .ok (.iadd, 1) := by decide +kernel
theorem dX5_follow_47 : decode cX5_follow 47 = .ok (.iload_n 3, 1) := by decide +kernel
theorem dX5_follow_48 : decode cX5_follow 48 = .ok (.iadd, 1) := by decide +kernel
theorem dX5_follow_49 : decode cX5_follow 49 = .ok (.istore 4, 2) := by decide +kernel
theorem dX5_follow_51 : decode cX5_follow 51 = .ok (.aload_n 0, 1) := by decide +kernel
theorem dX5_follow_52 : decode cX5_follow 52 = .ok (.aload_n 0, 1) := by decide +kernel
theorem dX5_follow_53 : decode cX5_follow 53 = .ok (.getfield 43, 3) := by decide +kernel
theorem dX5_follow_56 : decode cX5_follow 56 = .ok (.iload_n 1, 1) := by decide +kernel
theorem dX5_follow_57 : decode cX5_follow 57 = .ok (.aaload, 1) := by decide +kernel
theorem dX5_follow_58 : decode cX5_follow 58 = .ok (.getfield 181, 3) := by decide +kernel
theorem dX5_follow_61 : decode cX5_follow 61 = .ok (.aload_n 0, 1) := by decide +kernel
theorem dX5_follow_62 : decode cX5_follow 62 = .ok (.getfield 26, 3) := by decide +kernel
theorem dX5_follow_65 : decode cX5_follow 65 = .ok (.iload 4, 2) := by decide +kernel
theorem dX5_follow_67 : decode cX5_follow 67 = .ok (.invokevirtual 223, 3) := by decide +kernel
theorem dX5_follow_70 : decode cX5_follow 70 = .ok (.return_, 1) := by decide +kernel
set_option maxRecDepth 20000 in
theorem ggX5_addPoint_X4_add : GoodIn wsX5_addPoint wsX4_add := goodIn_r _ [11, 12, 13, 14, 15, 16, 17, 18, 10, 19, 20, 21, 22, 23, 24, 25, 26, 27, 28, 29, 30, 31, 32, 33, 34, 35, 36, 37, 38, 39, 40, 68, 69, 70] (by decide +kernel) (by decide +kernel)
set_option maxRecDepth 20000 in
theorem gX5_addPoint_X4_add : GoodIn wsX5_addPoint (wsV RX5 242 RX4 yX4_add wsX4_add) := goodIn_app (goodIn_of _ (by decide +kernel)) ggX5_addPoint_X4_add
set_option maxRecDepth 20000 in
theorem ggX5_addPoint_X3_set : GoodIn wsX5_addPoint wsX3_set := goodIn_r _ [45, 46, 47, 48, 49, 20, 21, 22, 23, 24, 25, 26, 71, 72, 73, 74] (by decide +kernel) (by decide +kernel)
set_option maxRecDepth 20000 in
theorem gX5_addPoint_X3_set : GoodIn wsX5_addPoint (wsV RX5 245 RX3 yX3_set wsX3_set) := goodIn_app (goodIn_of _ (by decide +kernel)) ggX5_addPoint_X3_set
theorem dX5_addPoint_0 : decode cX5_addPoint 0 = .ok (.aload_n 0, 1) := by decide +kernel
theorem dX5_addPoint_1 : decode cX5_addPoint 1 = .ok (.getfield 57, 3) := by decide +kernel
theorem dX5_addPoint_4 : decode cX5_addPoint 4 = .ok (.iload_n 1, 1) := by decide +kernel
theorem dX5_addPoint_5 : decode cX5_addPoint 5 = .ok (.aaload, 1) := by decide +kernel
theorem dX5_addPoint_6 : decode cX5_addPoint 6 = .ok (.astore 4, 2) := by decide +kernel
theorem dX5_addPoint_8 : decode cX5_addPoint 8 = .ok (.aload_n 0, 1) := by decide +kernel
theorem dX5_addPoint_9 : decode cX5_addPoint 9 = .ok (.getfield 120, 3) := by decide +kernel
theorem dX5_addPoint_12 : decode cX5_addPoint 12 = .ok (.aload_n 0, 1) := by decide +kernel
theorem dX5_addPoint_13 : decode cX5_addPoint 13 = .ok (.getfield 64, 3) := by decide +kernel
theorem dX5_addPoint_16 : decode cX5_addPoint 16 = .ok (.arraylength, 1) := by decide +kernel
theorem dX5_addPoint_17 : decode cX5_addPoint 17 = .ok (.if_icmp .ge 71, 3) := by decide +kernel
theorem dX5_addPoint_20 : decode cX5_addPoint 20 = .ok (.aload 4, 2) := by decide +kernel
theorem dX5_addPoint_22 : decode cX5_addPoint 22 = .ok (.getfield 153, 3) := by decide +kernel
theorem dX5_addPoint_25 : decode cX5_addPoint 25 = .ok (.aload_n 2, 1) := by decide +kernel
theorem dX5_addPoint_26 : decode cX5_addPoint 26 = .ok (.invokevirtual 242, 3) := by decide +kernel
theorem dX5_addPoint_29 : decode cX5_addPoint 29 = .ok (.ifCond .eq 59, 3) := by decide +kernel
theorem dX5_addPoint_32 : decode cX5_addPoint 32 = .ok (.aload_n 0, 1) := by decide +kernel
theorem dX5_addPoint_33 : decode cX5_addPoint 33 = .ok (.getfield 64, 3) := by decide +kernel
theorem dX5_addPoint_36 : decode cX5_addPoint 36 = .ok (.aload_n 0, 1) := by decide +kernel
theorem dX5_addPoint_37 : decode cX5_addPoint 37 = .ok (.getfield 120, 3) := by decide +kernel
theorem dX5_addPoint_40 : decode cX5_addPoint 40 = .ok (.aaload, 1) := by decide +kernel
theorem dX5_addPoint_41 : decode cX5_addPoint 41 = .ok (.iload_n 1, 1) := by decide +kernel
theorem dX5_addPoint_42 : decode cX5_addPoint 42 = .ok (.aload 4, 2) := by decide +kernel
theorem dX5_addPoint_44 : decode cX5_addPoint 44 = .ok (.getfield 130, 3) := by decide +kernel
theorem dX5_addPoint_47 : decode cX5_addPoint 47 = .ok (.iload_n 3, 1) := by decide +kernel
theorem dX5_addPoint_48 : decode cX5_addPoint 48 = .ok (.aload_n 2, 1) := by decide +kernel
theorem dX5_addPoint_49 : decode cX5_addPoint 49 = .ok (.invokevirtual 245, 3) := by decide +kernel
