theorem dX0_init_0 : decode cX0_init 0 = .ok (.aload_n 0, 1) := by decide +kernel
theorem dX0_init_1 : decode cX0_init 1 = .ok (.invokespecial 3, 3) := by decide +kernel
theorem dX0_init_4 : decode cX0_init 4 = .ok (.aload_n 0, 1) := by decide +kernel
theorem dX0_init_5 : decode cX0_init 5 = .ok (.iload_n 1, 1) := by decide +kernel
theorem dX0_init_6 : decode cX0_init 6 = .ok (.newarray .int, 2) := by decide +kernel
theorem dX0_init_8 : decode cX0_init 8 = .ok (.putfield 9, 3) := by decide +kernel
theorem dX0_init_11 : decode cX0_init 11 = .ok (.return_, 1) := by decide +kernel
set_option maxRecDepth 20000 in
theorem ggX0_set_X5_copy : GoodIn wsX0_set wsX5_copy := goodIn_r _ [8, 9, 10, 11, 12] (by decide +kernel) (by decide +kernel)
set_option maxRecDepth 20000 in
theorem gX0_set_X5_copy_n28 : GoodIn wsX0_set (wsX5_copy) := ggX0_set_X5_copy
theorem dX0_set_0 : decode cX0_set 0 = .ok (.aload_n 0, 1) := by decide +kernel
theorem dX0_set_1 : decode cX0_set 1 = .ok (.iload_n 1, 1) := by decide +kernel
theorem dX0_set_2 : decode cX0_set 2 = .ok (.putfield 15, 3) := by decide +kernel
theorem dX0_set_5 : decode cX0_set 5 = .ok (.aload_n 0, 1) := by decide +kernel
theorem dX0_set_6 : decode cX0_set 6 = .ok (.iload_n 2, 1) := by decide +kernel
theorem dX0_set_7 : decode cX0_set 7 = .ok (.putfield 19, 3) := by decide +kernel
theorem dX0_set_10 : decode cX0_set 10 = .ok (.aload_n 0, 1) := by decide +kernel
theorem dX0_set_11 : decode cX0_set 11 = .ok (.iload_n 3, 1) := by decide +kernel
theorem dX0_set_12 : decode cX0_set 12 = .ok (.putfield 22, 3) := by decide +kernel
theorem dX0_set_15 : decode cX0_set 15 = .ok (.aload_n 0, 1) := by decide +kernel
theorem dX0_set_16 : decode cX0_set 16 = .ok (.iload 4, 2) := by decide +kernel
theorem dX0_set_18 : decode cX0_set 18 = .ok (.putfield 25, 3) := by decide +kernel
theorem dX0_set_21 : decode cX0_set 21 = .ok (.aload 5, 2) := by decide +kernel
theorem dX0_set_23 : decode cX0_set 23 = .ok (.aload_n 0, 1) := by decide +kernel
theorem dX0_set_24 : decode cX0_set 24 = .ok (.getfield 9, 3) := by decide +kernel
theorem dX0_set_27 : decode cX0_set 27 = .ok (.invokestatic 28, 3) := by decide +kernel
theorem dX0_set_30 : decode cX0_set 30 = .ok (.return_, 1) := by decide +kernel
set_option maxRecDepth 20000 in
theorem ggX0_isOpen_X5_valueOf : GoodIn wsX0_isOpen wsX5_valueOf := goodIn_r _ [5, 6] (by decide +kernel) (by decide +kernel)
set_option maxRecDepth 20000 in
theorem gX0_isOpen_X5_valueOf_n32 : GoodIn wsX0_isOpen (wsX5_valueOf) := ggX0_isOpen_X5_valueOf
theorem dX0_isOpen_0 : decode cX0_isOpen 0 = .ok (.aload_n 0, 1) := by decide +kernel
theorem dX0_isOpen_1 : decode cX0_isOpen 1 = .ok (.getfield 22, 3) := by decide +kernel
theorem dX0_isOpen_4 : decode cX0_isOpen 4 = .ok (.iconst 3, 1) := by decide +kernel
theorem dX0_isOpen_5 : decode cX0_isOpen 5 = .ok (.if_icmp .ne 20, 3) := by decide +kernel
theorem dX0_isOpen_8 : decode cX0_isOpen 8 = .ok (.aload_n 0, 1) := by decide +kernel
theorem dX0_isOpen_9 : decode cX0_isOpen 9 = .ok (.getfield 9, 3) := by decide +kernel
theorem dX0_isOpen_12 : decode cX0_isOpen 12 = .ok (.aload_n 1, 1) := by decide +kernel
theorem dX0_isOpen_13 : decode cX0_isOpen 13 = .ok (.invokestatic 32, 3) := by decide +kernel
theorem dX0_isOpen_16 : decode cX0_isOpen 16 = .ok (.ifCond .ne 7, 3) := by decide +kernel
theorem dX0_isOpen_19 : decode cX0_isOpen 19 = .ok (.iconst 1, 1) := by decide +kernel
theorem dX0_isOpen_20 : decode cX0_isOpen 20 = .ok (.goto 4, 3) := by decide +kernel
theorem dX0_isOpen_23 : decode cX0_isOpen 23 = .ok (.iconst 0, 1) := by decide +kernel
theorem dX0_isOpen_24 : decode cX0_isOpen 24 = .ok (.ireturn, 1) := by decide +kernel
theorem dX0_isOpen_25 : decode cX0_isOpen 25 = .ok (.aload_n 0, 1) := by decide +kernel
theorem dX0_isOpen_26 : decode cX0_isOpen 26 = .ok (.getfield 22, 3) := by decide +kernel
theorem dX0_isOpen_29 : decode cX0_isOpen 29 = .ok (.iconst 4, 1) := by decide +kernel
theorem dX0_isOpen_30 : decode cX0_isOpen 30 = .ok (.if_icmp .ne 14, 3) := by decide +kernel
theorem dX0_isOpen_33 : decode cX0_isOpen 33 = .ok (.aload_n 0, 1) := by decide +kernel
theorem dX0_isOpen_34 : decode cX0_isOpen 34 = .ok (.getfield 9, 3) := by decide +kernel
theorem dX0_isOpen_37 : decode cX0_isOpen 37 = .ok (.aload_n 1, 1) := by decide +kernel
theorem dX0_isOpen_38 : decode cX0_isOpen 38 = .ok (.invokestatic 32, 3) := by decide +kernel
theorem dX0_isOpen_41 : decode cX0_isOpen 41 = .ok (.ifCond .eq 7, 3) := by decide +kernel
theorem dX0_isOpen_44 : decode cX0_isOpen 44 = .ok (.iconst 1, 1) := by decide +kernel
theorem dX0_isOpen_45 : decode cX0_isOpen 45 = .ok (.goto 4, 3) := by decide +kernel
theorem dX0_isOpen_48 : decode cX0_isOpen 48 = .ok (.iconst 0, 1) := by decide +kernel
theorem dX0_isOpen_49 : decode cX0_isOpen 49 = .ok (.ireturn, 1) := by decide +kernel
set_option maxRecDepth 20000 in
theorem ggX0_step_X5_valueOf : GoodIn wsX0_step wsX5_valueOf := goodIn_r _ [6, 7] (by decide +kernel) (by decide +kernel)
set_option maxRecDepth 20000 in
theorem gX0_step_X5_valueOf_n32 : GoodIn wsX0_step (wsX5_valueOf) := ggX0_step_X5_valueOf
theorem dX0_step_0 : decode cX0_step 0 = .ok (.aload_n 0, 1) := by decide +kernel
theorem dX0_step_1 : decode cX0_step 1 = .ok (.getfield 22, 3) := by decide +kernel
theorem dX0_step_4 : decode cX0_step 4 = .ok (.iconst 1, 1) := by decide +kernel
theorem dX0_step_5 : decode cX0_step 5 = .ok (.if_icmp .ne 20, 3) := by decide +kernel
theorem dX0_step_8 : decode cX0_step 8 = .ok (.aload_n 1, 1) := by decide +kernel
theorem dX0_step_9 : decode cX0_step 9 = .ok (.aload_n 0, 1) := by decide +kernel
theorem dX0_step_10 : decode cX0_step 10 = .ok (.getfield 25, 3) := by decide +kernel
theorem dX0_step_13 : decode cX0_step 13 = .ok (.aload_n 0, 1) := by decide +kernel
theorem dX0_step_14 : decode cX0_step 14 = .ok (.getfield 9, 3) := by decide +kernel
theorem dX0_step_17 : decode cX0_step 17 = .ok (.aload_n 1, 1) := by decide +kernel
theorem dX0_step_18 : decode cX0_step 18 = .ok (.invokestatic 32, 3) := by decide +kernel
theorem dX0_step_21 : decode cX0_step 21 = .ok (.iastore, 1) := by decide +kernel
theorem dX0_step_22 : decode cX0_step 22 = .ok (.goto 18, 3) := by decide +kernel
theorem dX0_step_25 : decode cX0_step 25 = .ok (.aload_n 0, 1) := by decide +kernel
theorem dX0_step_26 : decode cX0_step 26 = .ok (.getfield 22, 3) := by decide +kernel
theorem dX0_step_29 : decode cX0_step 29 = .ok (.iconst 2, 1) := by decide +kernel
theorem dX0_step_30 : decode cX0_step 30 = .ok (.if_icmp .ne 10, 3) := by decide +kernel
theorem dX0_step_33 : decode cX0_step 33 = .ok (.aload_n 1, 1) := by decide +kernel
theorem dX0_step_34 : decode cX0_step 34 = .ok (.aload_n 0, 1) := by decide +kernel
theorem dX0_step_35 : decode cX0_step 35 = .ok (.getfield 25, 3) := by decide +kernel
theorem dX0_step_38 : decode cX0_step 38 = .ok (.iload_n 2, 1) := by decide +kernel
theorem dX0_step_39 : decode cX0_step 39 = .ok (.iastore, 1) := by decide +kernel
theorem dX0_step_40 : decode cX0_step 40 = .ok (.return_, 1) := by decide +kernel
set_option maxRecDepth 20000 in
theorem ggX0_stepBack_X5_addMultiple : GoodIn wsX0_stepBack wsX5_addMultiple := goodIn_r _ [6, 7] (by decide +kernel) (by decide +kernel)
set_option maxRecDepth 20000 in
theorem gX0_stepBack_X5_addMultiple_n36 : GoodIn wsX0_stepBack (wsX5_addMultiple) := ggX0_stepBack_X5_addMultiple
set_option maxRecDepth 20000 in
theorem ggX0_stepBack_X5_number : GoodIn wsX0_stepBack wsX5_number := goodIn_r _ [9, 10, 11, 12, 13, 14] (by decide +kernel) (by decide +kernel)
set_option maxRecDepth 20000 in
theorem gX0_stepBack_X5_number_n40 : GoodIn wsX0_stepBack (wsX5_number) := ggX0_stepBack_X5_number
theorem dX0_stepBack_0 : decode cX0_stepBack 0 = .ok (.aload_n 0, 1) := by decide +kernel
theorem dX0_stepBack_1 : decode cX0_stepBack 1 = .ok (.getfield 22, 3) := by decide +kernel
theorem dX0_stepBack_4 : decode cX0_stepBack 4 = .ok (.iconst 1, 1) := by decide +kernel
theorem dX0_stepBack_5 : decode cX0_stepBack 5 = .ok (.if_icmp .eq 12, 3) := by decide +kernel
theorem dX0_stepBack_8 : decode cX0_stepBack 8 = .ok (.aload_n 0, 1) := by decide +kernel
theorem dX0_stepBack_9 : decode cX0_stepBack 9 = .ok (.getfield 22, 3) := by decide +kernel
theorem dX0_stepBack_12 : decode cX0_stepBack 12 = .ok (.iconst 2, 1) := by decide +kernel
theorem dX0_stepBack_13 : decode cX0_stepBack 13 = .ok (.if_icmp .eq 4, 3) := by decide +kernel
theorem dX0_stepBack_16 : decode cX0_stepBack 16 = .ok (.return_, 1) := by decide +kernel
theorem dX0_stepBack_17 : decode cX0_stepBack 17 = .ok (.aload_n 1, 1) := by decide +kernel
theorem dX0_stepBack_18 : decode cX0_stepBack 18 = .ok (.aload_n 0, 1) := by decide +kernel
theorem dX0_stepBack_19 : decode cX0_stepBack 19 = .ok (.getfield 25, 3) := by decide +kernel
theorem dX0_stepBack_22 : decode cX0_stepBack 22 = .ok (.iaload, 1) := by decide +kernel
theorem dX0_stepBack_23 : decode cX0_stepBack 23 = .ok (.istore_n 3, 1) := by decide +kernel
theorem dX0_stepBack_24 : decode cX0_stepBack 24 = .ok (.aload_n 1, 1) := by decide +kernel
theorem dX0_stepBack_25 : decode cX0_stepBack 25 = .ok (.aload_n 0, 1) := by decide +kernel
theorem dX0_stepBack_26 : decode cX0_stepBack 26 = .ok (.getfield 25, 3) := by decide +kernel
theorem dX0_stepBack_29 : decode cX0_stepBack 29 = .ok (.iconst 0, 1) := by decide +kernel
theorem dX0_stepBack_30 : decode cX0_stepBack 30 = .ok (.iastore, 1) := by decide +kernel
theorem dX0_stepBack_31 : decode cX0_stepBack 31 = .ok (.aload_n 0, 1) := by decide +kernel
theorem dX0_stepBack_32 : decode cX0_stepBack 32 = .ok (.getfield 22, 3) := by decide +kernel
theorem dX0_stepBack_35 : decode cX0_stepBack 35 = .ok (.iconst 1, 1) := by decide +kernel
theorem dX0_stepBack_36 : decode cX0_stepBack 36 = .ok (.if_icmp .ne 15, 3) := by decide +kernel
theorem dX0_stepBack_39 : decode cX0_stepBack 39 = .ok (.aload_n 1, 1) := by decide +kernel
theorem dX0_stepBack_40 : decode cX0_stepBack 40 = .ok (.iload_n 3, 1) := by decide +kernel
theorem dX0_stepBack_41 : decode cX0_stepBack 41 = .ok (.aload_n 0, 1) := by decide +kernel
theorem dX0_stepBack_42 : decode cX0_stepBack 42 = .ok (.getfield 9, 3) := by decide +kernel
theorem dX0_stepBack_45 : decode cX0_stepBack 45 = .ok (.invokestatic 36, 3) := by decide +kernel
theorem dX0_stepBack_48 : decode cX0_stepBack 48 = .ok (.goto 16, 3) := by decide +kernel
theorem dX0_stepBack_51 : decode cX0_stepBack 51 = .ok (.aload_n 1, 1) := by decide +kernel
theorem dX0_stepBack_52 : decode cX0_stepBack 52 = .ok (.iconst 0, 1) := by decide +kernel
theorem dX0_stepBack_53 : decode cX0_stepBack 53 = .ok (.aload_n 1, 1) := by decide +kernel
theorem dX0_stepBack_54 : decode cX0_stepBack 54 = .ok (.iconst 0, 1) := by decide +kernel
theorem dX0_stepBack_55 : decode cX0_stepBack 55 = .ok (.iaload, 1) := by decide +kernel
theorem dX0_stepBack_56 : decode cX0_stepBack 56 = .ok (.iload_n 3, 1) := by decide +kernel
theorem dX0_stepBack_57 : decode cX0_stepBack 57 = .ok (.iload_n 2, 1) := by decide +kernel
theorem dX0_stepBack_58 : decode cX0_stepBack 58 = .ok (.imul, 1) := by decide +kernel
theorem dX0_stepBack_59 : decode cX0_stepBack 59 = .ok (.iadd, 1) := by decide +kernel
theorem dX0_stepBack_60 : decode cX0_stepBack 60 = .ok (.invokestatic 40, 3) := by decide +kernel
theorem dX0_stepBack_63 : decode cX0_stepBack 63 = .ok (.iastore, 1) := by decide +kernel
theorem dX0_stepBack_64 : decode cX0_stepBack 64 = .ok (.return_, 1) := by decide +kernel
set_option maxRecDepth 20000 in
theorem ggX1_init_X4_init : GoodIn wsX1_init wsX4_init := goodIn_r _ [12, 13, 2, 3, 14, 8, 15, 16, 17, 18, 19, 20, 21] (by decide +kernel) (by decide +kernel)
set_option maxRecDepth 20000 in
theorem gX1_init_X4_init : GoodIn wsX1_init (wsX4_init) := ggX1_init_X4_init
theorem dX1_init_0 : decode cX1_init 0 = .ok (.aload_n 0, 1) := by decide +kernel
theorem dX1_init_1 : decode cX1_init 1 = .ok (.invokespecial 1, 3) := by decide +kernel
theorem dX1_init_4 : decode cX1_init 4 = .ok (.aload_n 0, 1) := by decide +kernel
theorem dX1_init_5 : decode cX1_init 5 = .ok (.new 7, 3) := by decide +kernel
theorem dX1_init_8 : decode cX1_init 8 = .ok (.dup, 1) := by decide +kernel
theorem dX1_init_9 : decode cX1_init 9 = .ok (.iload_n 1, 1) := by decide +kernel
theorem dX1_init_10 : decode cX1_init 10 = .ok (.invokespecial 9, 3) := by decide +kernel
theorem dX1_init_13 : decode cX1_init 13 = .ok (.putfield 12, 3) := by decide +kernel
theorem dX1_init_16 : decode cX1_init 16 = .ok (.aload_n 0, 1) := by decide +kernel
theorem dX1_init_17 : decode cX1_init 17 = .ok (.iload_n 1, 1) := by decide +kernel
theorem dX1_init_18 : decode cX1_init 18 = .ok (.newarray .int, 2) := by decide +kernel
theorem dX1_init_20 : decode cX1_init 20 = .ok (.putfield 18, 3) := by decide +kernel
theorem dX1_init_23 : decode cX1_init 23 = .ok (.return_, 1) := by decide +kernel
set_option maxRecDepth 20000 in
theorem ggX1_clear_X4_clear : GoodIn wsX1_clear wsX4_clear := goodIn_r _ [7, 8, 12, 13, 14] (by decide +kernel) (by decide +kernel)
set_option maxRecDepth 20000 in
theorem gX1_clear_X4_clear : GoodIn wsX1_clear (wsV RX1 22 RX4 yX4_clear wsX4_clear) := goodIn_app (goodIn_of _ (by decide +kernel)) ggX1_clear_X4_clear
theorem dX1_clear_0 : decode cX1_clear 0 = .ok (.aload_n 0, 1) := by decide +kernel
theorem dX1_clear_1 : decode cX1_clear 1 = .ok (.getfield 12, 3) := by decide +kernel
theorem dX1_clear_4 : decode cX1_clear 4 = .ok (.invokevirtual 22, 3) := by decide +kernel
theorem dX1_clear_7 : decode cX1_clear 7 = .ok (.aload_n 0, 1) := by decide +kernel
theorem dX1_clear_8 : decode cX1_clear 8 = .ok (.iconst 0, 1) := by decide +kernel
theorem dX1_clear_9 : decode cX1_clear 9 = .ok (.putfield 25, 3) := by decide +kernel
theorem dX1_clear_12 : decode cX1_clear 12 = .ok (.return_, 1) := by decide +kernel
theorem dX1_equationCount_0 : decode cX1_equationCount 0 = .ok (.aload_n 0, 1) := by decide +kernel
theorem dX1_equationCount_1 : decode cX1_equationCount 1 = .ok (.getfield 18, 3) := by decide +kernel
theorem dX1_equationCount_4 : decode cX1_equationCount 4 = .ok (.arraylength, 1) := by decide +kernel
theorem dX1_equationCount_5 : decode cX1_equationCount 5 = .ok (.aload_n 0, 1) := by decide +kernel
theorem dX1_equationCount_6 : decode cX1_equationCount 6 = .ok (.getfield 25, 3) := by decide +kernel
theorem dX1_equationCount_9 : decode cX1_equationCount 9 = .ok (.isub, 1) := by decide +kernel
theorem dX1_equationCount_10 : decode cX1_equationCount 10 = .ok (.ireturn, 1) := by decide +kernel
theorem dX2_init_0 : decode cX2_init 0 = .ok (.aload_n 0, 1) := by decide +kernel
theorem dX2_init_1 : decode cX2_init 1 = .ok (.invokespecial 1, 3) := by decide +kernel
theorem dX2_init_4 : decode cX2_init 4 = .ok (.aload_n 0, 1) := by decide +kernel
theorem dX2_init_5 : decode cX2_init 5 = .ok (.iload_n 1, 1) := by decide +kernel
theorem dX2_init_6 : decode cX2_init 6 = .ok (.newarray .int, 2) := by decide +kernel
theorem dX2_init_8 : decode cX2_init 8 = .ok (.putfield 7, 3) := by decide +kernel
theorem dX2_init_11 : decode cX2_init 11 = .ok (.return_, 1) := by decide +kernel
set_option maxRecDepth 20000 in
theorem ggX2_set_X5_copy : GoodIn wsX2_set wsX5_copy := goodIn_r _ [5, 6, 7, 8, 9] (by decide +kernel) (by decide +kernel)
set_option maxRecDepth 20000 in
theorem gX2_set_X5_copy_n17 : GoodIn wsX2_set (wsX5_copy) := ggX2_set_X5_copy
theorem dX2_set_0 : decode cX2_set 0 = .ok (.aload_n 0, 1) := by decide +kernel
theorem dX2_set_1 : decode cX2_set 1 = .ok (.iload_n 1, 1) := by decide +kernel
theorem dX2_set_2 : decode cX2_set 2 = .ok (.putfield 13, 3) := by decide +kernel
theorem dX2_set_5 : decode cX2_set 5 = .ok (.aload_n 2, 1) := by decide +kernel
theorem dX2_set_6 : decode cX2_set 6 = .ok (.aload_n 0, 1) := by decide +kernel
theorem dX2_set_7 : decode cX2_set 7 = .ok (.getfield 7, 3) := by decide +kernel
theorem dX2_set_10 : decode cX2_set 10 = .ok (.invokestatic 17, 3) := by decide +kernel
theorem dX2_set_13 : decode cX2_set 13 = .ok (.return_, 1) := by decide +kernel
theorem dX3_init_0 : decode cX3_init 0 = .ok (.aload_n 0, 1) := by decide +kernel
theorem dX3_init_1 : decode cX3_init 1 = .ok (.invokespecial 1, 3) := by decide +kernel
theorem dX3_init_4 : decode cX3_init 4 = .ok (.aload_n 0, 1) := by decide +kernel
theorem dX3_init_5 : decode cX3_init 5 = .ok (.iload_n 1, 1) := by decide +kernel
theorem dX3_init_6 : decode cX3_init 6 = .ok (.newarray .int, 2) := by decide +kernel
theorem dX3_init_8 : decode cX3_init 8 = .ok (.putfield 7, 3) := by decide +kernel
theorem dX3_init_11 : decode cX3_init 11 = .ok (.return_, 1) := by decide +kernel
set_option maxRecDepth 20000 in
theorem ggX3_set_X5_copy : GoodIn wsX3_set wsX5_copy := goodIn_r _ [7, 8, 9, 10, 11] (by decide +kernel) (by decide +kernel)
set_option maxRecDepth 20000 in
theorem gX3_set_X5_copy_n23 : GoodIn wsX3_set (wsX5_copy) := ggX3_set_X5_copy
theorem dX3_set_0 : decode cX3_set 0 = .ok (.aload_n 0, 1) := by decide +kernel
theorem dX3_set_1 : decode cX3_set 1 = .ok (.iload_n 1, 1) := by decide +kernel
theorem dX3_set_2 : decode cX3_set 2 = .ok (.putfield 13, 3) := by decide +kernel
theorem dX3_set_5 : decode cX3_set 5 = .ok (.aload_n 0, 1) := by decide +kernel
theorem dX3_set_6 : decode cX3_set 6 = .ok (.iload_n 2, 1) := by decide +kernel
theorem dX3_set_7 : decode cX3_set 7 = .ok (.putfield 17, 3) := by decide +kernel
theorem dX3_set_10 : decode cX3_set 10 = .ok (.aload_n 0, 1) := by decide +kernel
theorem dX3_set_11 : decode cX3_set 11 = .ok (.iload_n 3, 1) := by decide +kernel
theorem dX3_set_12 : decode cX3_set 12 = .ok (.putfield 20, 3) := by decide +kernel
theorem dX3_set_15 : decode cX3_set 15 = .ok (.aload 4, 2) := by decide +kernel
theorem dX3_set_17 : decode cX3_set 17 = .ok (.aload_n 0, 1) := by decide +kernel
theorem dX3_set_18 : decode cX3_set 18 = .ok (.getfield 7, 3) := by decide +kernel
theorem dX3_set_21 : decode cX3_set 21 = .ok (.invokestatic 23, 3) := by decide +kernel
theorem dX3_set_24 : decode cX3_set 24 = .ok (.return_, 1) := by decide +kernel
theorem dX4_init_0 : decode cX4_init 0 = .ok (.aload_n 0, 1) := by decide +kernel
theorem dX4_init_1 : decode cX4_init 1 = .ok (.invokespecial 3, 3) := by decide +kernel
theorem dX4_init_4 : decode cX4_init 4 = .ok (.aload_n 0, 1) := by decide +kernel
theorem dX4_init_5 : decode cX4_init 5 = .ok (.iload_n 1, 1) := by decide +kernel
theorem dX4_init_6 : decode cX4_init 6 = .ok (.iload_n 1, 1) := by decide +kernel
theorem dX4_init_7 : decode cX4_init 7 = .ok (.multianewarray 9 2, 4) := by decide +kernel
theorem dX4_init_11 : decode cX4_init 11 = .ok (.putfield 11, 3) := by decide +kernel
theorem dX4_init_14 : decode cX4_init 14 = .ok (.aload_n 0, 1) := by decide +kernel
theorem dX4_init_15 : decode cX4_init 15 = .ok (.iload_n 1, 1) := by decide +kernel
theorem dX4_init_16 : decode cX4_init 16 = .ok (.newarray .boolean, 2) := by decide +kernel
theorem dX4_init_18 : decode cX4_init 18 = .ok (.putfield 16, 3) := by decide +kernel
theorem dX4_init_21 : decode cX4_init 21 = .ok (.aload_n 0, 1) := by decide +kernel
theorem dX4_init_22 : decode cX4_init 22 = .ok (.iload_n 1, 1) := by decide +kernel
theorem dX4_init_23 : decode cX4_init 23 = .ok (.newarray .int, 2) := by decide +kernel
theorem dX4_init_25 : decode cX4_init 25 = .ok (.putfield 20, 3) := by decide +kernel
theorem dX4_init_28 : decode cX4_init 28 = .ok (.return_, 1) := by decide +kernel
theorem dX4_clear_0 : decode cX4_clear 0 = .ok (.iconst 0, 1) := by decide +kernel
theorem dX4_clear_1 : decode cX4_clear 1 = .ok (.istore_n 1, 1) := by decide +kernel
theorem dX4_clear_2 : decode cX4_clear 2 = .ok (.iload_n 1, 1) := by decide +kernel
theorem dX4_clear_3 : decode cX4_clear 3 = .ok (.aload_n 0, 1) := by decide +kernel
theorem dX4_clear_4 : decode cX4_clear 4 = .ok (.getfield 16, 3) := by decide +kernel
theorem dX4_clear_7 : decode cX4_clear 7 = .ok (.arraylength, 1) := by decide +kernel
theorem dX4_clear_8 : decode cX4_clear 8 = .ok (.if_icmp .ge 16, 3) := by decide +kernel
theorem dX4_clear_11 : decode cX4_clear 11 = .ok (.aload_n 0, 1) := by decide +kernel
theorem dX4_clear_12 : decode cX4_clear 12 = .ok (.getfield 16, 3) := by decide +kernel
theorem dX4_clear_15 : decode cX4_clear 15 = .ok (.iload_n 1, 1) := by decide +kernel
theorem dX4_clear_16 : decode cX4_clear 16 = .ok (.iconst 0, 1) := by decide +kernel
theorem dX4_clear_17 : decode cX4_clear 17 = .ok (.bastore, 1) := by decide +kernel
theorem dX4_clear_18 : decode cX4_clear 18 = .ok (.iinc 1 1, 3) := by decide +kernel
theorem dX4_clear_21 : decode cX4_clear 21 = .ok (.goto (-19), 3) := by decide +kernel
theorem dX4_clear_24 : decode cX4_clear 24 = .ok (.return_, 1) := by decide +kernel
set_option maxRecDepth 20000 in
theorem ggX4_contains_X4_reduce : GoodIn wsX4_contains wsX4_reduce := goodIn_r _ [5, 6, 7, 8, 9, 10, 11, 12, 13, 14, 15, 16, 17, 18, 19, 24, 25, 26] (by decide +kernel) (by decide +kernel)
set_option maxRecDepth 20000 in
theorem gX4_contains_X4_reduce : GoodIn wsX4_contains (wsV RX4 24 RX4 yX4_reduce wsX4_reduce) := goodIn_app (goodIn_of _ (by decide +kernel)) ggX4_contains_X4_reduce
set_option maxRecDepth 20000 in
theorem ggX4_contains_X4_leadingPlace : GoodIn wsX4_contains wsX4_leadingPlace := goodIn_r _ [23, 6, 24, 25, 26] (by decide +kernel) (by decide +kernel)
set_option maxRecDepth 20000 in
theorem gX4_contains_X4_leadingPlace : GoodIn wsX4_contains (wsV RX4 28 RX4 yX4_leadingPlace wsX4_leadingPlace) := goodIn_app (goodIn_of _ (by decide +kernel)) ggX4_contains_X4_leadingPlace
theorem dX4_contains_0 : decode cX4_contains 0 = .ok (.aload_n 0, 1) := by decide +kernel
theorem dX4_contains_1 : decode cX4_contains 1 = .ok (.aload_n 1, 1) := by decide +kernel
theorem dX4_contains_2 : decode cX4_contains 2 = .ok (.invokevirtual 24, 3) := by decide +kernel
theorem dX4_contains_5 : decode cX4_contains 5 = .ok (.aload_n 0, 1) := by decide +kernel
theorem dX4_contains_6 : decode cX4_contains 6 = .ok (.invokevirtual 28, 3) := by decide +kernel
theorem dX4_contains_9 : decode cX4_contains 9 = .ok (.ifCond .ge 7, 3) := by decide +kernel
theorem dX4_contains_12 : decode cX4_contains 12 = .ok (.iconst 1, 1) := by decide +kernel
theorem dX4_contains_13 : decode cX4_contains 13 = .ok (.goto 4, 3) := by decide +kernel
theorem dX4_contains_16 : decode cX4_contains 16 = .ok (.iconst 0, 1) := by decide +kernel
theorem dX4_contains_17 : decode cX4_contains 17 = .ok (.ireturn, 1) := by decide +kernel
set_option maxRecDepth 20000 in
theorem ggX4_add_X4_reduce : GoodIn wsX4_add wsX4_reduce := goodIn_r _ [9, 2, 3, 4, 1, 10, 11, 12, 13, 14, 15, 16, 17, 18, 19, 31, 32, 33] (by decide +kernel) (by decide +kernel)
set_option maxRecDepth 20000 in
theorem gX4_add_X4_reduce : GoodIn wsX4_add (wsV RX4 24 RX4 yX4_reduce wsX4_reduce) := goodIn_app (goodIn_of _ (by decide +kernel)) ggX4_add_X4_reduce
set_option maxRecDepth 20000 in
theorem ggX4_add_X4_leadingPlace : GoodIn wsX4_add wsX4_leadingPlace := goodIn_r _ [23, 2, 31, 32, 33] (by decide +kernel) (by decide +kernel)
set_option maxRecDepth 20000 in
theorem gX4_add_X4_leadingPlace : GoodIn wsX4_add (wsV RX4 28 RX4 yX4_leadingPlace wsX4_leadingPlace) := goodIn_app (goodIn_of _ (by decide +kernel)) ggX4_add_X4_leadingPlace
set_option maxRecDepth 20000 in
theorem ggX4_add_J7_fill_53178 : GoodIn wsX4_add wsJ7_fill_53178 := goodIn_r _ [27] (by decide +kernel) (by decide +kernel)
set_option maxRecDepth 20000 in
theorem gX4_add_J7_fill_53178 : GoodIn wsX4_add (va_wsS RX4 32 yJ7_fill_53178 wsJ7_fill_53178) := goodIn_app (goodIn_of _ (by decide +kernel)) ggX4_add_J7_fill_53178
set_option maxRecDepth 20000 in
theorem ggX4_add_X5_inverse : GoodIn wsX4_add wsX5_inverse := goodIn_r _ [29, 30, 19] (by decide +kernel) (by decide +kernel)
set_option maxRecDepth 20000 in
theorem gX4_add_X5_inverse_n38 : GoodIn wsX4_add (wsX5_inverse) := ggX4_add_X5_inverse
set_option maxRecDepth 20000 in
theorem ggX4_add_X5_addMultiple : GoodIn wsX4_add wsX5_addMultiple := goodIn_r _ [18, 19] (by decide +kernel) (by decide +kernel)
set_option maxRecDepth 20000 in
theorem gX4_add_X5_addMultiple_n42 : GoodIn wsX4_add (wsX5_addMultiple) := ggX4_add_X5_addMultiple
theorem dX4_add_0 : decode cX4_add 0 = .ok (.aload_n 0, 1) := by decide +kernel
theorem dX4_add_1 : decode cX4_add 1 = .ok (.aload_n 1, 1) := by decide +kernel
theorem dX4_add_2 : decode cX4_add 2 = .ok (.invokevirtual 24, 3) := by decide +kernel
theorem dX4_add_5 : decode cX4_add 5 = .ok (.aload_n 0, 1) := by decide +kernel
theorem dX4_add_6 : decode cX4_add 6 = .ok (.invokevirtual 28, 3) := by decide +kernel
theorem dX4_add_9 : decode cX4_add 9 = .ok (.istore_n 2, 1) := by decide +kernel
theorem dX4_add_10 : decode cX4_add 10 = .ok (.iload_n 2, 1) := by decide +kernel
theorem dX4_add_11 : decode cX4_add 11 = .ok (.ifCond .ge 5, 3) := by decide +kernel
theorem dX4_add_14 : decode cX4_add 14 = .ok (.iconst 0, 1) := by decide +kernel
theorem dX4_add_15 : decode cX4_add 15 = .ok (.ireturn, 1) := by decide +kernel
theorem dX4_add_16 : decode cX4_add 16 = .ok (.aload_n 0, 1) := by decide +kernel
theorem dX4_add_17 : decode cX4_add 17 = .ok (.getfield 11, 3) := by decide +kernel
theorem dX4_add_20 : decode cX4_add 20 = .ok (.iload_n 2, 1) := by decide +kernel
theorem dX4_add_21 : decode cX4_add 21 = .ok (.aaload, 1) := by decide +kernel
theorem dX4_add_22 : decode cX4_add 22 = .ok (.astore_n 3, 1) := by decide +kernel
theorem dX4_add_23 : decode cX4_add 23 = .ok (.aload_n 3, 1) := by decide +kernel
theorem dX4_add_24 : decode cX4_add 24 = .ok (.iconst 0, 1) := by decide +kernel
theorem dX4_add_25 : decode cX4_add 25 = .ok (.invokestatic 32, 3) := by decide +kernel
theorem dX4_add_28 : decode cX4_add 28 = .ok (.aload_n 3, 1) := by decide +kernel
theorem dX4_add_29 : decode cX4_add 29 = .ok (.aload_n 0, 1) := by decide +kernel
theorem dX4_add_30 : decode cX4_add 30 = .ok (.getfield 20, 3) := by decide +kernel
theorem dX4_add_33 : decode cX4_add 33 = .ok (.iload_n 2, 1) := by decide +kernel
theorem dX4_add_34 : decode cX4_add 34 = .ok (.iaload, 1) := by decide +kernel
theorem dX4_add_35 : decode cX4_add 35 = .ok (.invokestatic 38, 3) := by decide +kernel
theorem dX4_add_38 : decode cX4_add 38 = .ok (.aload_n 0, 1) := by decide +kernel
theorem dX4_add_39 : decode cX4_add 39 = .ok (.getfield 20, 3) := by decide +kernel
theorem dX4_add_42 : decode cX4_add 42 = .ok (.invokestatic 42, 3) := by decide +kernel
theorem dX4_add_45 : decode cX4_add 45 = .ok (.iconst 0, 1) := by decide +kernel
theorem dX4_add_46 : decode cX4_add 46 = .ok (.istore 4, 2) := by decide +kernel
theorem dX4_add_48 : decode cX4_add 48 = .ok (.iload 4, 2) := by decide +kernel
theorem dX4_add_50 : decode cX4_add 50 = .ok (.aload_n 0, 1) := by decide +kernel
theorem dX4_add_51 : decode cX4_add 51 = .ok (.getfield 16, 3) := by decide +kernel
theorem dX4_add_54 : decode cX4_add 54 = .ok (.arraylength, 1) := by decide +kernel
theorem dX4_add_55 : decode cX4_add 55 = .ok (.if_icmp .ge 42, 3) := by decide +kernel
theorem dX4_add_58 : decode cX4_add 58 = .ok (.aload_n 0, 1) := by decide +kernel
theorem dX4_add_59 : decode cX4_add 59 = .ok (.getfield 16, 3) := by decide +kernel
theorem dX4_add_62 : decode cX4_add 62 = .ok (.iload 4, 2) := by decide +kernel
theorem dX4_add_64 : decode cX4_add 64 = .ok (.baload, 1) := by decide +kernel
theorem dX4_add_65 : decode cX4_add 65 = .ok (.ifCond .eq 26, 3) := by decide +kernel
theorem dX4_add_68 : decode cX4_add 68 = .ok (.aload_n 0, 1) := by decide +kernel
theorem dX4_add_69 : decode cX4_add 69 = .ok (.getfield 11, 3) := by decide +kernel
theorem dX4_add_72 : decode cX4_add 72 = .ok (.iload 4, 2) := by decide +kernel
theorem dX4_add_74 : decode cX4_add 74 = .ok (.aaload, 1) := by decide +kernel
theorem dX4_add_75 : decode cX4_add 75 = .ok (.ldc 46, 2) := by decide +kernel
theorem dX4_add_77 : decode cX4_add 77 = .ok (.aload_n 0, 1) := by decide +kernel
theorem dX4_add_78 : decode cX4_add 78 = .ok (.getfield 11, 3) := by decide +kernel
theorem dX4_add_81 : decode cX4_add 81 = .ok (.iload 4, 2) := by decide +kernel
theorem dX4_add_83 : decode cX4_add 83 = .ok (.aaload, 1) := by decide +kernel
theorem dX4_add_84 : decode cX4_add 84 = .ok (.iload_n 2, 1) := by decide +kernel
theorem dX4_add_85 : decode cX4_add 85 = .ok (.iaload, 1) := by decide +kernel
theorem dX4_add_86 : decode cX4_add 86 = .ok (.isub, 1) := by decide +kernel
theorem dX4_add_87 : decode cX4_add 87 = .ok (.aload_n 3, 1) := by decide +kernel
theorem dX4_add_88 : decode cX4_add 88 = .ok (.invokestatic 42, 3) := by decide +kernel
theorem dX4_add_91 : decode cX4_add 91 = .ok (.iinc 4 1, 3) := by decide +kernel
theorem dX4_add_94 : decode cX4_add 94 = .ok (.goto (-46), 3) := by decide +kernel
theorem dX4_add_97 : decode cX4_add 97 = .ok (.aload_n 0, 1) := by decide +kernel
theorem dX4_add_98 : decode cX4_add 98 = .ok (.getfield 16, 3) := by decide +kernel
theorem dX4_add_101 : decode cX4_add 101 = .ok (.iload_n 2, 1) := by decide +kernel
theorem dX4_add_102 : decode cX4_add 102 = .ok (.iconst 1, 1) := by decide +kernel
theorem dX4_add_103 : decode cX4_add 103 = .ok (.bastore, 1) := by decide +kernel
theorem dX4_add_104 : decode cX4_add 104 = .ok (.iconst 1, 1) := by decide +kernel
theorem dX4_add_105 : decode cX4_add 105 = .ok (.ireturn, 1) := by decide +kernel
set_option maxRecDepth 20000 in
theorem ggX4_reduce_X5_copy : GoodIn wsX4_reduce wsX5_copy := goodIn_r _ [7, 8, 9, 10, 11] (by decide +kernel) (by decide +kernel)
set_option maxRecDepth 20000 in
theorem gX4_reduce_X5_copy_n47 : GoodIn wsX4_reduce (wsX5_copy) := ggX4_reduce_X5_copy
set_option maxRecDepth 20000 in
theorem ggX4_reduce_X5_addMultiple : GoodIn wsX4_reduce wsX5_addMultiple := goodIn_r _ [13, 14] (by decide +kernel) (by decide +kernel)
set_option maxRecDepth 20000 in
theorem gX4_reduce_X5_addMultiple_n42 : GoodIn wsX4_reduce (wsX5_addMultiple) := ggX4_reduce_X5_addMultiple
theorem dX4_reduce_0 : decode cX4_reduce 0 = .ok (.aload_n 1, 1) := by decide +kernel
theorem dX4_reduce_1 : decode cX4_reduce 1 = .ok (.aload_n 0, 1) := by decide +kernel
theorem dX4_reduce_2 : decode cX4_reduce 2 = .ok (.getfield 20, 3) := by decide +kernel
theorem dX4_reduce_5 : decode cX4_reduce 5 = .ok (.invokestatic 47, 3) := by decide +kernel
theorem dX4_reduce_8 : decode cX4_reduce 8 = .ok (.iconst 0, 1) := by decide +kernel
theorem dX4_reduce_9 : decode cX4_reduce 9 = .ok (.istore_n 2, 1) := by decide +kernel
theorem dX4_reduce_10 : decode cX4_reduce 10 = .ok (.iload_n 2, 1) := by decide +kernel
theorem dX4_reduce_11 : decode cX4_reduce 11 = .ok (.aload_n 0, 1) := by decide +kernel
theorem dX4_reduce_12 : decode cX4_reduce 12 = .ok (.getfield 16, 3) := by decide +kernel
theorem dX4_reduce_15 : decode cX4_reduce 15 = .ok (.arraylength, 1) := by decide +kernel
theorem dX4_reduce_16 : decode cX4_reduce 16 = .ok (.if_icmp .ge 40, 3) := by decide +kernel
theorem dX4_reduce_19 : decode cX4_reduce 19 = .ok (.aload_n 0, 1) := by decide +kernel
theorem dX4_reduce_20 : decode cX4_reduce 20 = .ok (.getfield 16, 3) := by decide +kernel
theorem dX4_reduce_23 : decode cX4_reduce 23 = .ok (.iload_n 2, 1) := by decide +kernel
theorem dX4_reduce_24 : decode cX4_reduce 24 = .ok (.baload, 1) := by decide +kernel
theorem dX4_reduce_25 : decode cX4_reduce 25 = .ok (.ifCond .eq 25, 3) := by decide +kernel
theorem dX4_reduce_28 : decode cX4_reduce 28 = .ok (.aload_n 0, 1) := by decide +kernel
theorem dX4_reduce_29 : decode cX4_reduce 29 = .ok (.getfield 20, 3) := by decide +kernel
theorem dX4_reduce_32 : decode cX4_reduce 32 = .ok (.ldc 46, 2) := by decide +kernel
theorem dX4_reduce_34 : decode cX4_reduce 34 = .ok (.aload_n 0, 1) := by decide +kernel
theorem dX4_reduce_35 : decode cX4_reduce 35 = .ok (.getfield 20, 3) := by decide +kernel
theorem dX4_reduce_38 : decode cX4_reduce 38 = .ok (.iload_n 2, 1) := by decide +kernel
theorem dX4_reduce_39 : decode cX4_reduce 39 = .ok (.iaload, 1) := by decide +kernel
theorem dX4_reduce_40 : decode cX4_reduce 40 = .ok (.isub, 1) := by decide +kernel
theorem dX4_reduce_41 : decode cX4_reduce 41 = .ok (.aload_n 0, 1) := by decide +kernel
theorem dX4_reduce_42 : decode cX4_reduce 42 = .ok (.getfield 11, 3) := by decide +kernel
theorem dX4_reduce_45 : decode cX4_reduce 45 = .ok (.iload_n 2, 1) := by decide +kernel
theorem dX4_reduce_46 : decode cX4_reduce 46 = .ok (.aaload, 1) := by decide +kernel
theorem dX4_reduce_47 : decode cX4_reduce 47 = .ok (.invokestatic 42, 3) := by decide +kernel
theorem dX4_reduce_50 : decode cX4_reduce 50 = .ok (.iinc 2 1, 3) := by decide +kernel
theorem dX4_reduce_53 : decode cX4_reduce 53 = .ok (.goto (-43), 3) := by decide +kernel
theorem dX4_reduce_56 : decode cX4_reduce 56 = .ok (.return_, 1) := by decide +kernel
theorem dX4_leadingPlace_0 : decode cX4_leadingPlace 0 = .ok (.aload_n 0, 1) := by decide +kernel
theorem dX4_leadingPlace_1 : decode cX4_leadingPlace 1 = .ok (.getfield 20, 3) := by decide +kernel
theorem dX4_leadingPlace_4 : decode cX4_leadingPlace 4 = .ok (.iconst 0, 1) := by decide +kernel
theorem dX4_leadingPlace_5 : decode cX4_leadingPlace 5 = .ok (.iaload, 1) := by decide +kernel
theorem dX4_leadingPlace_6 : decode cX4_leadingPlace 6 = .ok (.ifCond .eq 5, 3) := by decide +kernel
theorem dX4_leadingPlace_9 : decode cX4_leadingPlace 9 = .ok (.iconst 0, 1) := by decide +kernel
theorem dX4_leadingPlace_10 : decode cX4_leadingPlace 10 = .ok (.ireturn, 1) := by decide +kernel
theorem dX4_leadingPlace_11 : decode cX4_leadingPlace 11 = .ok (.aload_n 0, 1) := by decide +kernel
theorem dX4_leadingPlace_12 : decode cX4_leadingPlace 12 = .ok (.getfield 20, 3) := by decide +kernel
theorem dX4_leadingPlace_15 : decode cX4_leadingPlace 15 = .ok (.arraylength, 1) := by decide +kernel
theorem dX4_leadingPlace_16 : decode cX4_leadingPlace 16 = .ok (.iconst 1, 1) := by decide +kernel
theorem dX4_leadingPlace_17 : decode cX4_leadingPlace 17 = .ok (.isub, 1) := by decide +kernel
theorem dX4_leadingPlace_18 : decode cX4_leadingPlace 18 = .ok (.istore_n 1, 1) := by decide +kernel
theorem dX4_leadingPlace_19 : decode cX4_leadingPlace 19 = .ok (.iload_n 1, 1) := by decide +kernel
theorem dX4_leadingPlace_20 : decode cX4_leadingPlace 20 = .ok (.ifCond .le 20, 3) := by decide +kernel
theorem dX4_leadingPlace_23 : decode cX4_leadingPlace 23 = .ok (.aload_n 0, 1) := by decide +kernel
theorem dX4_leadingPlace_24 : decode cX4_leadingPlace 24 = .ok (.getfield 20, 3) := by decide +kernel
theorem dX4_leadingPlace_27 : decode cX4_leadingPlace 27 = .ok (.iload_n 1, 1) := by decide +kernel
theorem dX4_leadingPlace_28 : decode cX4_leadingPlace 28 = .ok (.iaload, 1) := by decide +kernel
theorem dX4_leadingPlace_29 : decode cX4_leadingPlace 29 = .ok (.ifCond .eq 5, 3) := by decide +kernel
theorem dX4_leadingPlace_32 : decode cX4_leadingPlace 32 = .ok (.iload_n 1, 1) := by decide +kernel
theorem dX4_leadingPlace_33 : decode cX4_leadingPlace 33 = .ok (.ireturn, 1) := by decide +kernel
theorem dX4_leadingPlace_34 : decode cX4_leadingPlace 34 = .ok (.iinc 1 (-1), 3) := by decide +kernel
theorem dX4_leadingPlace_37 : decode cX4_leadingPlace 37 = .ok (.goto (-18), 3) := by decide +kernel
theorem dX4_leadingPlace_40 : decode cX4_leadingPlace 40 = .ok (.iconst (-1), 1) := by decide +kernel
theorem dX4_leadingPlace_41 : decode cX4_leadingPlace 41 = .ok (.ireturn, 1) := by decide +kernel
theorem dX4_freePlace_0 : decode cX4_freePlace 0 = .ok (.iload_n 1, 1) := by decide +kernel
theorem dX4_freePlace_1 : decode cX4_freePlace 1 = .ok (.istore_n 2, 1) := by decide +kernel
theorem dX4_freePlace_2 : decode cX4_freePlace 2 = .ok (.iconst 1, 1) := by decide +kernel
theorem dX4_freePlace_3 : decode cX4_freePlace 3 = .ok (.istore_n 3, 1) := by decide +kernel
theorem dX4_freePlace_4 : decode cX4_freePlace 4 = .ok (.iload_n 3, 1) := by decide +kernel
theorem dX4_freePlace_5 : decode cX4_freePlace 5 = .ok (.aload_n 0, 1) := by decide +kernel
theorem dX4_freePlace_6 : decode cX4_freePlace 6 = .ok (.getfield 16, 3) := by decide +kernel
theorem dX4_freePlace_9 : decode cX4_freePlace 9 = .ok (.arraylength, 1) := by decide +kernel
theorem dX4_freePlace_10 : decode cX4_freePlace 10 = .ok (.if_icmp .ge 27, 3) := by decide +kernel
theorem dX4_freePlace_13 : decode cX4_freePlace 13 = .ok (.aload_n 0, 1) := by decide +kernel
theorem dX4_freePlace_14 : decode cX4_freePlace 14 = .ok (.getfield 16, 3) := by decide +kernel
theorem dX4_freePlace_17 : decode cX4_freePlace 17 = .ok (.iload_n 3, 1) := by decide +kernel
theorem dX4_freePlace_18 : decode cX4_freePlace 18 = .ok (.baload, 1) := by decide +kernel
theorem dX4_freePlace_19 : decode cX4_freePlace 19 = .ok (.ifCond .ne 12, 3) := by decide +kernel
theorem dX4_freePlace_22 : decode cX4_freePlace 22 = .ok (.iload_n 2, 1) := by decide +kernel
theorem dX4_freePlace_23 : decode cX4_freePlace 23 = .ok (.ifCond .ne 5, 3) := by decide +kernel
theorem dX4_freePlace_26 : decode cX4_freePlace 26 = .ok (.iload_n 3, 1) := by decide +kernel
theorem dX4_freePlace_27 : decode cX4_freePlace 27 = .ok (.ireturn, 1) := by decide +kernel
theorem dX4_freePlace_28 : decode cX4_freePlace 28 = .ok (.iinc 2 (-1), 3) := by decide +kernel
theorem dX4_freePlace_31 : decode cX4_freePlace 31 = .ok (.iinc 3 1, 3) := by decide +kernel
theorem dX4_freePlace_34 : decode cX4_freePlace 34 = .ok (.goto (-30), 3) := by decide +kernel
theorem dX4_freePlace_37 : decode cX4_freePlace 37 = .ok (.iconst 0, 1) := by decide +kernel
theorem dX4_freePlace_38 : decode cX4_freePlace 38 = .ok (.ireturn, 1) := by decide +kernel
set_option maxRecDepth 20000 in
theorem ggX4_vanishing_X5_number : GoodIn wsX4_vanishing wsX5_number := goodIn_r _ [5, 6, 7, 8, 9, 10] (by decide +kernel) (by decide +kernel)
set_option maxRecDepth 20000 in
theorem gX4_vanishing_X5_number_n51 : GoodIn wsX4_vanishing (wsX5_number) := ggX4_vanishing_X5_number
theorem dX4_vanishing_0 : decode cX4_vanishing 0 = .ok (.iload_n 2, 1) := by decide +kernel
theorem dX4_vanishing_1 : decode cX4_vanishing 1 = .ok (.iload_n 1, 1) := by decide +kernel
theorem dX4_vanishing_2 : decode cX4_vanishing 2 = .ok (.if_icmp .ne 5, 3) := by decide +kernel
theorem dX4_vanishing_5 : decode cX4_vanishing 5 = .ok (.iconst 1, 1) := by decide +kernel
theorem dX4_vanishing_6 : decode cX4_vanishing 6 = .ok (.ireturn, 1) := by decide +kernel
theorem dX4_vanishing_7 : decode cX4_vanishing 7 = .ok (.aload_n 0, 1) := by decide +kernel
theorem dX4_vanishing_8 : decode cX4_vanishing 8 = .ok (.getfield 16, 3) := by decide +kernel
theorem dX4_vanishing_11 : decode cX4_vanishing 11 = .ok (.iload_n 2, 1) := by decide +kernel
theorem dX4_vanishing_12 : decode cX4_vanishing 12 = .ok (.baload, 1) := by decide +kernel
theorem dX4_vanishing_13 : decode cX4_vanishing 13 = .ok (.ifCond .eq 18, 3) := by decide +kernel
theorem dX4_vanishing_16 : decode cX4_vanishing 16 = .ok (.aload_n 0, 1) := by decide +kernel
theorem dX4_vanishing_17 : decode cX4_vanishing 17 = .ok (.getfield 11, 3) := by decide +kernel
theorem dX4_vanishing_20 : decode cX4_vanishing 20 = .ok (.iload_n 2, 1) := by decide +kernel
theorem dX4_vanishing_21 : decode cX4_vanishing 21 = .ok (.aaload, 1) := by decide +kernel
theorem dX4_vanishing_22 : decode cX4_vanishing 22 = .ok (.iload_n 1, 1) := by decide +kernel
theorem dX4_vanishing_23 : decode cX4_vanishing 23 = .ok (.iaload, 1) := by decide +kernel
theorem dX4_vanishing_24 : decode cX4_vanishing 24 = .ok (.ineg, 1) := by decide +kernel
theorem dX4_vanishing_25 : decode cX4_vanishing 25 = .ok (.invokestatic 51, 3) := by decide +kernel
theorem dX4_vanishing_28 : decode cX4_vanishing 28 = .ok (.goto 4, 3) := by decide +kernel
theorem dX4_vanishing_31 : decode cX4_vanishing 31 = .ok (.iconst 0, 1) := by decide +kernel
theorem dX4_vanishing_32 : decode cX4_vanishing 32 = .ok (.ireturn, 1) := by decide +kernel
set_option maxRecDepth 20000 in
theorem ggX5_init_X4_init : GoodIn wsX5_init wsX4_init := goodIn_r _ [38, 39, 2, 3, 40, 12, 41, 42, 43, 44, 83, 84, 85] (by decide +kernel) (by decide +kernel)
set_option maxRecDepth 20000 in
theorem gX5_init_X4_init : GoodIn wsX5_init (wsX4_init) := ggX5_init_X4_init
set_option maxRecDepth 20000 in
theorem ggX5_init_X0_init : GoodIn wsX5_init wsX0_init := goodIn_r _ [47, 48, 2, 3, 12, 49, 86, 87, 88, 89, 90] (by decide +kernel) (by decide +kernel)
set_option maxRecDepth 20000 in
theorem gX5_init_X0_init : GoodIn wsX5_init (wsX0_init) := ggX5_init_X0_init
set_option maxRecDepth 20000 in
theorem ggX5_init_X2_init : GoodIn wsX5_init wsX2_init := goodIn_r _ [52, 53, 2, 3, 12, 54, 91, 92] (by decide +kernel) (by decide +kernel)
set_option maxRecDepth 20000 in
theorem gX5_init_X2_init : GoodIn wsX5_init (wsX2_init) := ggX5_init_X2_init
set_option maxRecDepth 20000 in
theorem ggX5_init_X1_init : GoodIn wsX5_init wsX1_init := goodIn_r _ [57, 58, 2, 3, 59, 17, 18, 60, 12, 61, 62, 37, 38, 39, 40, 41, 42, 43, 44, 83, 84, 85, 93, 94, 95] (by decide +kernel) (by decide +kernel)
set_option maxRecDepth 20000 in
theorem gX5_init_X1_init : GoodIn wsX5_init (wsX1_init) := ggX5_init_X1_init
set_option maxRecDepth 20000 in
theorem ggX5_init_X3_init : GoodIn wsX5_init wsX3_init := goodIn_r _ [65, 66, 2, 3, 12, 67, 96, 97, 98, 99] (by decide +kernel) (by decide +kernel)
set_option maxRecDepth 20000 in
theorem gX5_init_X3_init : GoodIn wsX5_init (wsX3_init) := ggX5_init_X3_init
theorem dX5_init_0 : decode cX5_init 0 = .ok (.aload_n 0, 1) := by decide +kernel
theorem dX5_init_1 : decode cX5_init 1 = .ok (.invokespecial 1, 3) := by decide +kernel
theorem dX5_init_4 : decode cX5_init 4 = .ok (.iconst 1, 1) := by decide +kernel
theorem dX5_init_5 : decode cX5_init 5 = .ok (.bipush 8, 2) := by decide +kernel
theorem dX5_init_7 : decode cX5_init 7 = .ok (.iload_n 1, 1) := by decide +kernel
theorem dX5_init_8 : decode cX5_init 8 = .ok (.invokestatic 9, 3) := by decide +kernel
theorem dX5_init_11 : decode cX5_init 11 = .ok (.invokestatic 15, 3) := by decide +kernel
theorem dX5_init_14 : decode cX5_init 14 = .ok (.istore_n 3, 1) := by decide +kernel
theorem dX5_init_15 : decode cX5_init 15 = .ok (.aload_n 0, 1) := by decide +kernel
theorem dX5_init_16 : decode cX5_init 16 = .ok (.iconst 1, 1) := by decide +kernel
theorem dX5_init_17 : decode cX5_init 17 = .ok (.iconst 4, 1) := by decide +kernel
theorem dX5_init_18 : decode cX5_init 18 = .ok (.iload_n 2, 1) := by decide +kernel
theorem dX5_init_19 : decode cX5_init 19 = .ok (.invokestatic 9, 3) := by decide +kernel
theorem dX5_init_22 : decode cX5_init 22 = .ok (.invokestatic 15, 3) := by decide +kernel
theorem dX5_init_25 : decode cX5_init 25 = .ok (.putfield 18, 3) := by decide +kernel
theorem dX5_init_28 : decode cX5_init 28 = .ok (.aload_n 0, 1) := by decide +kernel
theorem dX5_init_29 : decode cX5_init 29 = .ok (.getfield 18, 3) := by decide +kernel
theorem dX5_init_32 : decode cX5_init 32 = .ok (.iconst 1, 1) := by decide +kernel
theorem dX5_init_33 : decode cX5_init 33 = .ok (.iadd, 1) := by decide +kernel
theorem dX5_init_34 : decode cX5_init 34 = .ok (.istore 4, 2) := by decide +kernel
theorem dX5_init_36 : decode cX5_init 36 = .ok (.aload_n 0, 1) := by decide +kernel
theorem dX5_init_37 : decode cX5_init 37 = .ok (.iload 4, 2) := by decide +kernel
theorem dX5_init_39 : decode cX5_init 39 = .ok (.newarray .int, 2) := by decide +kernel
theorem dX5_init_41 : decode cX5_init 41 = .ok (.putfield 22, 3) := by decide +kernel
theorem dX5_init_44 : decode cX5_init 44 = .ok (.aload_n 0, 1) := by decide +kernel
theorem dX5_init_45 : decode cX5_init 45 = .ok (.iload 4, 2) := by decide +kernel
theorem dX5_init_47 : decode cX5_init 47 = .ok (.newarray .int, 2) := by decide +kernel
theorem dX5_init_49 : decode cX5_init 49 = .ok (.putfield 26, 3) := by decide +kernel
theorem dX5_init_52 : decode cX5_init 52 = .ok (.aload_n 0, 1) := by decide +kernel
theorem dX5_init_53 : decode cX5_init 53 = .ok (.iload 4, 2) := by decide +kernel
theorem dX5_init_55 : decode cX5_init 55 = .ok (.newarray .int, 2) := by decide +kernel
theorem dX5_init_57 : decode cX5_init 57 = .ok (.putfield 29, 3) := by decide +kernel
theorem dX5_init_60 : decode cX5_init 60 = .ok (.aload_n 0, 1) := by decide +kernel
theorem dX5_init_61 : decode cX5_init 61 = .ok (.getfield 29, 3) := by decide +kernel
theorem dX5_init_64 : decode cX5_init 64 = .ok (.iconst 0, 1) := by decide +kernel
theorem dX5_init_65 : decode cX5_init 65 = .ok (.iconst 1, 1) := by decide +kernel
theorem dX5_init_66 : decode cX5_init 66 = .ok (.iastore, 1) := by decide +kernel
theorem dX5_init_67 : decode cX5_init 67 = .ok (.aload_n 0, 1) := by decide +kernel
theorem dX5_init_68 : decode cX5_init 68 = .ok (.new 32, 3) := by decide +kernel
theorem dX5_init_71 : decode cX5_init 71 = .ok (.dup, 1) := by decide +kernel
theorem dX5_init_72 : decode cX5_init 72 = .ok (.iload 4, 2) := by decide +kernel
theorem dX5_init_74 : decode cX5_init 74 = .ok (.invokespecial 34, 3) := by decide +kernel
theorem dX5_init_77 : decode cX5_init 77 = .ok (.putfield 37, 3) := by decide +kernel
theorem dX5_init_80 : decode cX5_init 80 = .ok (.aload_n 0, 1) := by decide +kernel
theorem dX5_init_81 : decode cX5_init 81 = .ok (.bipush 20, 2) := by decide +kernel
theorem dX5_init_83 : decode cX5_init 83 = .ok (.anewarray 41, 3) := by decide +kernel
theorem dX5_init_86 : decode cX5_init 86 = .ok (.putfield 43, 3) := by decide +kernel
theorem dX5_init_89 : decode cX5_init 89 = .ok (.iconst 0, 1) := by decide +kernel
theorem dX5_init_90 : decode cX5_init 90 = .ok (.istore 5, 2) := by decide +kernel
theorem dX5_init_92 : decode cX5_init 92 = .ok (.iload 5, 2) := by decide +kernel
theorem dX5_init_94 : decode cX5_init 94 = .ok (.bipush 20, 2) := by decide +kernel
theorem dX5_init_96 : decode cX5_init 96 = .ok (.if_icmp .ge 25, 3) := by decide +kernel
theorem dX5_init_99 : decode cX5_init 99 = .ok (.aload_n 0, 1) := by decide +kernel
theorem dX5_init_100 : decode cX5_init 100 = .ok (.getfield 43, 3) := by decide +kernel
theorem dX5_init_103 : decode cX5_init 103 = .ok (.iload 5, 2) := by decide +kernel
theorem dX5_init_105 : decode cX5_init 105 = .ok (.new 41, 3) := by decide +kernel
theorem dX5_init_108 : decode cX5_init 108 = .ok (.dup, 1) := by decide +kernel
theorem dX5_init_109 : decode cX5_init 109 = .ok (.iload 4, 2) := by decide +kernel
theorem dX5_init_111 : decode cX5_init 111 = .ok (.invokespecial 47, 3) := by decide +kernel
theorem dX5_init_114 : decode cX5_init 114 = .ok (.aastore, 1) := by decide +kernel
theorem dX5_init_115 : decode cX5_init 115 = .ok (.iinc 5 1, 3) := by decide +kernel
theorem dX5_init_118 : decode cX5_init 118 = .ok (.goto (-26), 3) := by decide +kernel
theorem dX5_init_121 : decode cX5_init 121 = .ok (.aload_n 0, 1) := by decide +kernel
theorem dX5_init_122 : decode cX5_init 122 = .ok (.bipush 24, 2) := by decide +kernel
theorem dX5_init_124 : decode cX5_init 124 = .ok (.anewarray 48, 3) := by decide +kernel
theorem dX5_init_127 : decode cX5_init 127 = .ok (.putfield 50, 3) := by decide +kernel
theorem dX5_init_130 : decode cX5_init 130 = .ok (.iconst 0, 1) := by decide +kernel
theorem dX5_init_131 : decode cX5_init 131 = .ok (.istore 5, 2) := by decide +kernel
theorem dX5_init_133 : decode cX5_init 133 = .ok (.iload 5, 2) := by decide +kernel
theorem dX5_init_135 : decode cX5_init 135 = .ok (.bipush 24, 2) := by decide +kernel
theorem dX5_init_137 : decode cX5_init 137 = .ok (.if_icmp .ge 25, 3) := by decide +kernel
theorem dX5_init_140 : decode cX5_init 140 = .ok (.aload_n 0, 1) := by decide +kernel
theorem dX5_init_141 : decode cX5_init 141 = .ok (.getfield 50, 3) := by decide +kernel
theorem dX5_init_144 : decode cX5_init 144 = .ok (.iload 5, 2) := by decide +kernel
theorem dX5_init_146 : decode cX5_init 146 = .ok (.new 48, 3) := by decide +kernel
theorem dX5_init_149 : decode cX5_init 149 = .ok (.dup, 1) := by decide +kernel
theorem dX5_init_150 : decode cX5_init 150 = .ok (.iload 4, 2) := by decide +kernel
theorem dX5_init_152 : decode cX5_init 152 = .ok (.invokespecial 54, 3) := by decide +kernel
theorem dX5_init_155 : decode cX5_init 155 = .ok (.aastore, 1) := by decide +kernel
theorem dX5_init_156 : decode cX5_init 156 = .ok (.iinc 5 1, 3) := by decide +kernel
theorem dX5_init_159 : decode cX5_init 159 = .ok (.goto (-26), 3) := by decide +kernel
theorem dX5_init_162 : decode cX5_init 162 = .ok (.aload_n 0, 1) := by decide +kernel
theorem dX5_init_163 : decode cX5_init 163 = .ok (.iload_n 3, 1) := by decide +kernel
theorem dX5_init_164 : decode cX5_init 164 = .ok (.anewarray 55, 3) := by decide +kernel
theorem dX5_init_167 : decode cX5_init 167 = .ok (.putfield 57, 3) := by decide +kernel
theorem dX5_init_170 : decode cX5_init 170 = .ok (.iconst 0, 1) := by decide +kernel
theorem dX5_init_171 : decode cX5_init 171 = .ok (.istore 5, 2) := by decide +kernel
theorem dX5_init_173 : decode cX5_init 173 = .ok (.iload 5, 2) := by decide +kernel
theorem dX5_init_175 : decode cX5_init 175 = .ok (.iload_n 3, 1) := by decide +kernel
theorem dX5_init_176 : decode cX5_init 176 = .ok (.if_icmp .ge 25, 3) := by decide +kernel
theorem dX5_init_179 : decode cX5_init 179 = .ok (.aload_n 0, 1) := by decide +kernel
theorem dX5_init_180 : decode cX5_init 180 = .ok (.getfield 57, 3) := by decide +kernel
theorem dX5_init_183 : decode cX5_init 183 = .ok (.iload 5, 2) := by decide +kernel
theorem dX5_init_185 : decode cX5_init 185 = .ok (.new 55, 3) := by decide +kernel
theorem dX5_init_188 : decode cX5_init 188 = .ok (.dup, 1) := by decide +kernel
theorem dX5_init_189 : decode cX5_init 189 = .ok (.iload 4, 2) := by decide +kernel
theorem dX5_init_191 : decode cX5_init 191 = .ok (.invokespecial 61, 3) := by decide +kernel
theorem dX5_init_194 : decode cX5_init 194 = .ok (.aastore, 1) := by decide +kernel
theorem dX5_init_195 : decode cX5_init 195 = .ok (.iinc 5 1, 3) := by decide +kernel
theorem dX5_init_198 : decode cX5_init 198 = .ok (.goto (-25), 3) := by decide +kernel
theorem dX5_init_201 : decode cX5_init 201 = .ok (.aload_n 0, 1) := by decide +kernel
theorem dX5_init_202 : decode cX5_init 202 = .ok (.iload_n 3, 1) := by decide +kernel
theorem dX5_init_203 : decode cX5_init 203 = .ok (.iload 4, 2) := by decide +kernel
theorem dX5_init_205 : decode cX5_init 205 = .ok (.imul, 1) := by decide +kernel
theorem dX5_init_206 : decode cX5_init 206 = .ok (.anewarray 62, 3) := by decide +kernel
theorem dX5_init_209 : decode cX5_init 209 = .ok (.putfield 64, 3) := by decide +kernel
theorem dX5_init_212 : decode cX5_init 212 = .ok (.iconst 0, 1) := by decide +kernel
theorem dX5_init_213 : decode cX5_init 213 = .ok (.istore 5, 2) := by decide +kernel
theorem dX5_init_215 : decode cX5_init 215 = .ok (.iload 5, 2) := by decide +kernel
theorem dX5_init_217 : decode cX5_init 217 = .ok (.aload_n 0, 1) := by decide +kernel
theorem dX5_init_218 : decode cX5_init 218 = .ok (.getfield 64, 3) := by decide +kernel
theorem dX5_init_221 : decode cX5_init 221 = .ok (.arraylength, 1) := by decide +kernel
theorem dX5_init_222 : decode cX5_init 222 = .ok (.if_icmp .ge 25, 3) := by decide +kernel
theorem dX5_init_225 : decode cX5_init 225 = .ok (.aload_n 0, 1) := by decide +kernel
theorem dX5_init_226 : decode cX5_init 226 = .ok (.getfield 64, 3) := by decide +kernel
theorem dX5_init_229 : decode cX5_init 229 = .ok (.iload 5, 2) := by decide +kernel
theorem dX5_init_231 : decode cX5_init 231 = .ok (.new 62, 3) := by decide +kernel
theorem dX5_init_234 : decode cX5_init 234 = .ok (.dup, 1) := by decide +kernel
theorem dX5_init_235 : decode cX5_init 235 = .ok (.iload 4, 2) := by decide +kernel
theorem dX5_init_237 : decode cX5_init 237 = .ok (.invokespecial 68, 3) := by decide +kernel
theorem dX5_init_240 : decode cX5_init 240 = .ok (.aastore, 1) := by decide +kernel
theorem dX5_init_241 : decode cX5_init 241 = .ok (.iinc 5 1, 3) := by decide +kernel
theorem dX5_init_244 : decode cX5_init 244 = .ok (.goto (-29), 3) := by decide +kernel
theorem dX5_init_247 : decode cX5_init 247 = .ok (.return_, 1) := by decide +kernel
set_option maxRecDepth 20000 in
theorem ggX5_term_X5_requirePlace : GoodIn wsX5_term wsX5_requirePlace := goodIn_ca (goodIn_r _ [6, 7, 8, 9, 18, 19, 20, 21, 22, 23, 24, 25, 26, 27, 28, 29, 30, 31, 32] (by decide +kernel) (by decide +kernel)) (goodIn_sub (fun _ h => List.mem_cons_of_mem _ (List.mem_append_right _ h)) (by decide +kernel))
set_option maxRecDepth 20000 in
theorem gX5_term_X5_requirePlace : GoodIn wsX5_term (wsV RX5 69 RX5 yX5_requirePlace wsX5_requirePlace) := goodIn_app (goodIn_of _ (by decide +kernel)) ggX5_term_X5_requirePlace
set_option maxRecDepth 20000 in
theorem ggX5_term_X5_number : GoodIn wsX5_term wsX5_number := goodIn_r _ [12, 13, 14, 15, 16, 17] (by decide +kernel) (by decide +kernel)
set_option maxRecDepth 20000 in
theorem gX5_term_X5_number : GoodIn wsX5_term (va_wsS RX5 72 yX5_number wsX5_number) := goodIn_app (goodIn_of _ (by decide +kernel)) ggX5_term_X5_number
theorem dX5_term_0 : decode cX5_term 0 = .ok (.aload_n 0, 1) := by decide +kernel
theorem dX5_term_1 : decode cX5_term 1 = .ok (.iload_n 1, 1) := by decide +kernel
theorem dX5_term_2 : decode cX5_term 2 = .ok (.invokevirtual 69, 3) := by decide +kernel
theorem dX5_term_5 : decode cX5_term 5 = .ok (.aload_n 0, 1) := by decide +kernel
theorem dX5_term_6 : decode cX5_term 6 = .ok (.getfield 22, 3) := by decide +kernel
theorem dX5_term_9 : decode cX5_term 9 = .ok (.iload_n 1, 1) := by decide +kernel
theorem dX5_term_10 : decode cX5_term 10 = .ok (.iload_n 2, 1) := by decide +kernel
theorem dX5_term_11 : decode cX5_term 11 = .ok (.invokestatic 72, 3) := by decide +kernel
theorem dX5_term_14 : decode cX5_term 14 = .ok (.iastore, 1) := by decide +kernel
theorem dX5_term_15 : decode cX5_term 15 = .ok (.return_, 1) := by decide +kernel
set_option maxRecDepth 20000 in
theorem ggX5_edge_X5_requireNode : GoodIn wsX5_edge wsX5_requireNode := goodIn_ca (goodIn_r _ [13, 1, 2, 14, 44, 45, 46, 47, 48, 49, 50, 51, 52, 53, 54, 55, 56, 57, 58] (by decide +kernel) (by decide +kernel)) (goodIn_sub (fun _ h => List.mem_cons_of_mem _ (List.mem_append_left _ (List.mem_append_right _ h))) (by decide +kernel))
set_option maxRecDepth 20000 in
theorem gX5_edge_X5_requireNode : GoodIn wsX5_edge (wsV RX5 76 RX5 yX5_requireNode wsX5_requireNode) := goodIn_app (goodIn_of _ (by decide +kernel)) ggX5_edge_X5_requireNode
set_option maxRecDepth 20000 in
theorem ggX5_edge_X5_requireVariable : GoodIn wsX5_edge wsX5_requireVariable := goodIn_ca (goodIn_r _ [18, 1, 2, 19, 44, 45, 46, 47, 48, 49, 50, 51, 52, 53, 54, 55, 56, 57, 58] (by decide +kernel) (by decide +kernel)) (goodIn_sub (fun _ h => List.mem_cons_of_mem _ (List.mem_append_left _ (List.mem_append_right _ h))) (by decide +kernel))
set_option maxRecDepth 20000 in
theorem gX5_edge_X5_requireVariable : GoodIn wsX5_edge (wsV RX5 86 RX5 yX5_requireVariable wsX5_requireVariable) := goodIn_app (goodIn_of _ (by decide +kernel)) ggX5_edge_X5_requireVariable
set_option maxRecDepth 20000 in
theorem ggX5_edge_X0_set : GoodIn wsX5_edge wsX0_set := goodIn_r _ [24, 25, 26, 27, 28, 29, 30, 12, 31, 32, 33, 34, 35, 59, 60, 61, 62, 63] (by decide +kernel) (by decide +kernel)
set_option maxRecDepth 20000 in
theorem gX5_edge_X0_set : GoodIn wsX5_edge (wsV RX5 97 RX0 yX0_set wsX0_set) := goodIn_app (goodIn_of _ (by decide +kernel)) ggX5_edge_X0_set
set_option maxRecDepth 20000 in
theorem ggX5_edge_X5_clearDraft : GoodIn wsX5_edge wsX5_clearDraft := goodIn_r _ [39, 7, 40, 41, 42, 43, 44, 45, 46, 47, 48, 49, 50, 51, 52, 53, 54, 55, 56, 57, 58] (by decide +kernel) (by decide +kernel)
set_option maxRecDepth 20000 in
theorem gX5_edge_X5_clearDraft : GoodIn wsX5_edge (wsV RX5 101 RX5 yX5_clearDraft wsX5_clearDraft) := goodIn_app (goodIn_of _ (by decide +kernel)) ggX5_edge_X5_clearDraft
theorem dX5_edge_0 : decode cX5_edge 0 = .ok (.aload_n 0, 1) := by decide +kernel
theorem dX5_edge_1 : decode cX5_edge 1 = .ok (.iload_n 1, 1) := by decide +kernel
theorem dX5_edge_2 : decode cX5_edge 2 = .ok (.invokevirtual 76, 3) := by decide +kernel
theorem dX5_edge_5 : decode cX5_edge 5 = .ok (.aload_n 0, 1) := by decide +kernel
theorem dX5_edge_6 : decode cX5_edge 6 = .ok (.iload_n 2, 1) := by decide +kernel
theorem dX5_edge_7 : decode cX5_edge 7 = .ok (.invokevirtual 76, 3) := by decide +kernel
theorem dX5_edge_10 : decode cX5_edge 10 = .ok (.iload_n 3, 1) := by decide +kernel
theorem dX5_edge_11 : decode cX5_edge 11 = .ok (.ifCond .lt 8, 3) := by decide +kernel
theorem dX5_edge_14 : decode cX5_edge 14 = .ok (.iload_n 3, 1) := by decide +kernel
theorem dX5_edge_15 : decode cX5_edge 15 = .ok (.iconst 4, 1) := by decide +kernel
theorem dX5_edge_16 : decode cX5_edge 16 = .ok (.if_icmp .le 13, 3) := by decide +kernel
theorem dX5_edge_19 : decode cX5_edge 19 = .ok (.new 79, 3) := by decide +kernel
theorem dX5_edge_22 : decode cX5_edge 22 = .ok (.dup, 1) := by decide +kernel
theorem dX5_edge_23 : decode cX5_edge 23 = .ok (.ldc 81, 2) := by decide +kernel
theorem dX5_edge_25 : decode cX5_edge 25 = .ok (.invokespecial 83, 3) := by decide +kernel
theorem dX5_edge_28 : decode cX5_edge 28 = .ok (.athrow, 1) := by decide +kernel
theorem dX5_edge_29 : decode cX5_edge 29 = .ok (.iload_n 3, 1) := by decide +kernel
theorem dX5_edge_30 : decode cX5_edge 30 = .ok (.iconst 1, 1) := by decide +kernel
theorem dX5_edge_31 : decode cX5_edge 31 = .ok (.if_icmp .eq 8, 3) := by decide +kernel
theorem dX5_edge_34 : decode cX5_edge 34 = .ok (.iload_n 3, 1) := by decide +kernel
theorem dX5_edge_35 : decode cX5_edge 35 = .ok (.iconst 2, 1) := by decide +kernel
theorem dX5_edge_36 : decode cX5_edge 36 = .ok (.if_icmp .ne 9, 3) := by decide +kernel
theorem dX5_edge_39 : decode cX5_edge 39 = .ok (.aload_n 0, 1) := by decide +kernel
theorem dX5_edge_40 : decode cX5_edge 40 = .ok (.iload 4, 2) := by decide +kernel
theorem dX5_edge_42 : decode cX5_edge 42 = .ok (.invokevirtual 86, 3) := by decide +kernel
theorem dX5_edge_45 : decode cX5_edge 45 = .ok (.aload_n 0, 1) := by decide +kernel
theorem dX5_edge_46 : decode cX5_edge 46 = .ok (.getfield 89, 3) := by decide +kernel
theorem dX5_edge_49 : decode cX5_edge 49 = .ok (.bipush 20, 2) := by decide +kernel
theorem dX5_edge_51 : decode cX5_edge 51 = .ok (.if_icmp .lt 13, 3) := by decide +kernel
theorem dX5_edge_54 : decode cX5_edge 54 = .ok (.new 92, 3) := by decide +kernel
theorem dX5_edge_57 : decode cX5_edge 57 = .ok (.dup, 1) := by decide +kernel
theorem dX5_edge_58 : decode cX5_edge 58 = .ok (.ldc 94, 2) := by decide +kernel
theorem dX5_edge_60 : decode cX5_edge 60 = .ok (.invokespecial 96, 3) := by decide +kernel
theorem dX5_edge_63 : decode cX5_edge 63 = .ok (.athrow, 1) := by decide +kernel
theorem dX5_edge_64 : decode cX5_edge 64 = .ok (.aload_n 0, 1) := by decide +kernel
theorem dX5_edge_65 : decode cX5_edge 65 = .ok (.getfield 43, 3) := by decide +kernel
theorem dX5_edge_68 : decode cX5_edge 68 = .ok (.aload_n 0, 1) := by decide +kernel
theorem dX5_edge_69 : decode cX5_edge 69 = .ok (.getfield 89, 3) := by decide +kernel
theorem dX5_edge_72 : decode cX5_edge 72 = .ok (.aaload, 1) := by decide +kernel
theorem dX5_edge_73 : decode cX5_edge 73 = .ok (.iload_n 1, 1) := by decide +kernel
theorem dX5_edge_74 : decode cX5_edge 74 = .ok (.iload_n 2, 1) := by decide +kernel
theorem dX5_edge_75 : decode cX5_edge 75 = .ok (.iload_n 3, 1) := by decide +kernel
theorem dX5_edge_76 : decode cX5_edge 76 = .ok (.iload 4, 2) := by decide +kernel
theorem dX5_edge_78 : decode cX5_edge 78 = .ok (.aload_n 0, 1) := by decide +kernel
theorem dX5_edge_79 : decode cX5_edge 79 = .ok (.getfield 22, 3) := by decide +kernel
theorem dX5_edge_82 : decode cX5_edge 82 = .ok (.invokevirtual 97, 3) := by decide +kernel
theorem dX5_edge_85 : decode cX5_edge 85 = .ok (.aload_n 0, 1) := by decide +kernel
theorem dX5_edge_86 : decode cX5_edge 86 = .ok (.dup, 1) := by decide +kernel
theorem dX5_edge_87 : decode cX5_edge 87 = .ok (.getfield 89, 3) := by decide +kernel
theorem dX5_edge_90 : decode cX5_edge 90 = .ok (.iconst 1, 1) := by decide +kernel
theorem dX5_edge_91 : decode cX5_edge 91 = .ok (.iadd, 1) := by decide +kernel
theorem dX5_edge_92 : decode cX5_edge 92 = .ok (.putfield 89, 3) := by decide +kernel
theorem dX5_edge_95 : decode cX5_edge 95 = .ok (.aload_n 0, 1) := by decide +kernel
theorem dX5_edge_96 : decode cX5_edge 96 = .ok (.invokevirtual 101, 3) := by decide +kernel
theorem dX5_edge_99 : decode cX5_edge 99 = .ok (.aload_n 0, 1) := by decide +kernel
theorem dX5_edge_100 : decode cX5_edge 100 = .ok (.iconst 0, 1) := by decide +kernel
theorem dX5_edge_101 : decode cX5_edge 101 = .ok (.putfield 104, 3) := by decide +kernel
theorem dX5_edge_104 : decode cX5_edge 104 = .ok (.aload_n 0, 1) := by decide +kernel
theorem dX5_edge_105 : decode cX5_edge 105 = .ok (.getfield 89, 3) := by decide +kernel
theorem dX5_edge_108 : decode cX5_edge 108 = .ok (.iconst 1, 1) := by decide +kernel
theorem dX5_edge_109 : decode cX5_edge 109 = .ok (.isub, 1) := by decide +kernel
theorem dX5_edge_110 : decode cX5_edge 110 = .ok (.ireturn, 1) := by decide +kernel
set_option maxRecDepth 20000 in
theorem ggX5_entry_X5_requireNode : GoodIn wsX5_entry wsX5_requireNode := goodIn_ca (goodIn_r _ [8, 9, 10, 11, 12, 13, 14, 15, 16, 17, 18, 19, 20, 21, 22, 23, 24, 25, 26] (by decide +kernel) (by decide +kernel)) (goodIn_sub (fun _ h => List.mem_cons_of_mem _ (List.mem_append_right _ h)) (by decide +kernel))
set_option maxRecDepth 20000 in
theorem gX5_entry_X5_requireNode : GoodIn wsX5_entry (wsV RX5 76 RX5 yX5_requireNode wsX5_requireNode) := goodIn_app (goodIn_of _ (by decide +kernel)) ggX5_entry_X5_requireNode
