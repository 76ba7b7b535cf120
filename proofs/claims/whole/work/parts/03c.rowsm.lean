set_option maxRecDepth 20000 in
theorem ggX5_init_X5_beginAll : GoodIn wsX5_init wsX5_beginAll := goodIn_ca (goodIn_r _ [24, 6, 7, 5, 8, 25, 26, 27, 28, 23, 29, 30, 31, 32, 33, 34, 35, 36, 37, 38, 39, 40, 41, 42, 43, 44, 45, 46, 47, 48, 49, 50, 51, 52, 53, 54, 55, 56, 57, 58] (by decide +kernel) (by decide +kernel)) (goodIn_sub (fun _ h => List.mem_cons_of_mem _ (List.mem_append_right _ h)) (by decide +kernel))
set_option maxRecDepth 20000 in
theorem gX5_init_X5_beginAll : GoodIn wsX5_init (wsV RX5 53 RX5 yX5_beginAll wsX5_beginAll) := goodIn_app (goodIn_of _ (by decide +kernel)) ggX5_init_X5_beginAll
theorem dX5_init_0 : decode cX5_init 0 = .ok (.aload_n 0, 1) := by decide +kernel
theorem dX5_init_1 : decode cX5_init 1 = .ok (.invokespecial 1, 3) := by decide +kernel
theorem dX5_init_4 : decode cX5_init 4 = .ok (.aload_n 0, 1) := by decide +kernel
theorem dX5_init_5 : decode cX5_init 5 = .ok (.bipush 6, 2) := by decide +kernel
theorem dX5_init_7 : decode cX5_init 7 = .ok (.newarray .int, 2) := by decide +kernel
theorem dX5_init_9 : decode cX5_init 9 = .ok (.putfield 7, 3) := by decide +kernel
theorem dX5_init_12 : decode cX5_init 12 = .ok (.aload_n 0, 1) := by decide +kernel
theorem dX5_init_13 : decode cX5_init 13 = .ok (.bipush 36, 2) := by decide +kernel
theorem dX5_init_15 : decode cX5_init 15 = .ok (.newarray .int, 2) := by decide +kernel
theorem dX5_init_17 : decode cX5_init 17 = .ok (.putfield 13, 3) := by decide +kernel
theorem dX5_init_20 : decode cX5_init 20 = .ok (.aload_n 0, 1) := by decide +kernel
theorem dX5_init_21 : decode cX5_init 21 = .ok (.bipush 30, 2) := by decide +kernel
theorem dX5_init_23 : decode cX5_init 23 = .ok (.newarray .int, 2) := by decide +kernel
theorem dX5_init_25 : decode cX5_init 25 = .ok (.putfield 16, 3) := by decide +kernel
theorem dX5_init_28 : decode cX5_init 28 = .ok (.aload_n 0, 1) := by decide +kernel
theorem dX5_init_29 : decode cX5_init 29 = .ok (.bipush 6, 2) := by decide +kernel
theorem dX5_init_31 : decode cX5_init 31 = .ok (.newarray .int, 2) := by decide +kernel
theorem dX5_init_33 : decode cX5_init 33 = .ok (.putfield 19, 3) := by decide +kernel
theorem dX5_init_36 : decode cX5_init 36 = .ok (.aload_n 0, 1) := by decide +kernel
theorem dX5_init_37 : decode cX5_init 37 = .ok (.bipush 64, 2) := by decide +kernel
theorem dX5_init_39 : decode cX5_init 39 = .ok (.newarray .int, 2) := by decide +kernel
theorem dX5_init_41 : decode cX5_init 41 = .ok (.putfield 22, 3) := by decide +kernel
theorem dX5_init_44 : decode cX5_init 44 = .ok (.aload_n 0, 1) := by decide +kernel
theorem dX5_init_45 : decode cX5_init 45 = .ok (.bipush 16, 2) := by decide +kernel
theorem dX5_init_47 : decode cX5_init 47 = .ok (.newarray .int, 2) := by decide +kernel
theorem dX5_init_49 : decode cX5_init 49 = .ok (.putfield 25, 3) := by decide +kernel
theorem dX5_init_52 : decode cX5_init 52 = .ok (.aload_n 0, 1) := by decide +kernel
theorem dX5_init_53 : decode cX5_init 53 = .ok (.bipush 16, 2) := by decide +kernel
theorem dX5_init_55 : decode cX5_init 55 = .ok (.newarray .long, 2) := by decide +kernel
theorem dX5_init_57 : decode cX5_init 57 = .ok (.putfield 28, 3) := by decide +kernel
theorem dX5_init_60 : decode cX5_init 60 = .ok (.aload_n 0, 1) := by decide +kernel
theorem dX5_init_61 : decode cX5_init 61 = .ok (.sipush 496, 3) := by decide +kernel
theorem dX5_init_64 : decode cX5_init 64 = .ok (.newarray .int, 2) := by decide +kernel
theorem dX5_init_66 : decode cX5_init 66 = .ok (.putfield 32, 3) := by decide +kernel
theorem dX5_init_69 : decode cX5_init 69 = .ok (.aload_n 0, 1) := by decide +kernel
theorem dX5_init_70 : decode cX5_init 70 = .ok (.bipush 16, 2) := by decide +kernel
theorem dX5_init_72 : decode cX5_init 72 = .ok (.newarray .int, 2) := by decide +kernel
theorem dX5_init_74 : decode cX5_init 74 = .ok (.putfield 35, 3) := by decide +kernel
theorem dX5_init_77 : decode cX5_init 77 = .ok (.aload_n 0, 1) := by decide +kernel
theorem dX5_init_78 : decode cX5_init 78 = .ok (.bipush 16, 2) := by decide +kernel
theorem dX5_init_80 : decode cX5_init 80 = .ok (.newarray .long, 2) := by decide +kernel
theorem dX5_init_82 : decode cX5_init 82 = .ok (.putfield 38, 3) := by decide +kernel
theorem dX5_init_85 : decode cX5_init 85 = .ok (.aload_n 0, 1) := by decide +kernel
theorem dX5_init_86 : decode cX5_init 86 = .ok (.bipush 16, 2) := by decide +kernel
theorem dX5_init_88 : decode cX5_init 88 = .ok (.newarray .int, 2) := by decide +kernel
theorem dX5_init_90 : decode cX5_init 90 = .ok (.putfield 41, 3) := by decide +kernel
theorem dX5_init_93 : decode cX5_init 93 = .ok (.aload_n 0, 1) := by decide +kernel
theorem dX5_init_94 : decode cX5_init 94 = .ok (.bipush 16, 2) := by decide +kernel
theorem dX5_init_96 : decode cX5_init 96 = .ok (.newarray .int, 2) := by decide +kernel
theorem dX5_init_98 : decode cX5_init 98 = .ok (.putfield 44, 3) := by decide +kernel
theorem dX5_init_101 : decode cX5_init 101 = .ok (.aload_n 0, 1) := by decide +kernel
theorem dX5_init_102 : decode cX5_init 102 = .ok (.bipush 16, 2) := by decide +kernel
theorem dX5_init_104 : decode cX5_init 104 = .ok (.newarray .int, 2) := by decide +kernel
theorem dX5_init_106 : decode cX5_init 106 = .ok (.putfield 47, 3) := by decide +kernel
theorem dX5_init_109 : decode cX5_init 109 = .ok (.aload_n 0, 1) := by decide +kernel
theorem dX5_init_110 : decode cX5_init 110 = .ok (.sipush 496, 3) := by decide +kernel
theorem dX5_init_113 : decode cX5_init 113 = .ok (.newarray .int, 2) := by decide +kernel
theorem dX5_init_115 : decode cX5_init 115 = .ok (.putfield 50, 3) := by decide +kernel
theorem dX5_init_118 : decode cX5_init 118 = .ok (.aload_n 0, 1) := by decide +kernel
theorem dX5_init_119 : decode cX5_init 119 = .ok (.invokevirtual 53, 3) := by decide +kernel
theorem dX5_init_122 : decode cX5_init 122 = .ok (.return_, 1) := by decide +kernel
theorem dX5_thrown_0 : decode cX5_thrown 0 = .ok (.aload_n 0, 1) := by decide +kernel
theorem dX5_thrown_1 : decode cX5_thrown 1 = .ok (.getfield 56, 3) := by decide +kernel
theorem dX5_thrown_4 : decode cX5_thrown 4 = .ok (.ireturn, 1) := by decide +kernel
theorem dX5_in_0 : decode cX5_in 0 = .ok (.iload_n 0, 1) := by decide +kernel
theorem dX5_in_1 : decode cX5_in 1 = .ok (.iload_n 1, 1) := by decide +kernel
theorem dX5_in_2 : decode cX5_in 2 = .ok (.if_icmp .lt 12, 3) := by decide +kernel
theorem dX5_in_5 : decode cX5_in 5 = .ok (.iload_n 0, 1) := by decide +kernel
theorem dX5_in_6 : decode cX5_in 6 = .ok (.iload_n 2, 1) := by decide +kernel
theorem dX5_in_7 : decode cX5_in 7 = .ok (.if_icmp .gt 7, 3) := by decide +kernel
theorem dX5_in_10 : decode cX5_in 10 = .ok (.iconst 1, 1) := by decide +kernel
theorem dX5_in_11 : decode cX5_in 11 = .ok (.goto 4, 3) := by decide +kernel
theorem dX5_in_14 : decode cX5_in 14 = .ok (.iconst 0, 1) := by decide +kernel
theorem dX5_in_15 : decode cX5_in 15 = .ok (.ireturn, 1) := by decide +kernel
set_option maxRecDepth 20000 in
theorem ggX5_beginAll_X5_noRun : GoodIn wsX5_beginAll wsX5_noRun := goodIn_r _ [10, 11, 12, 13, 14, 15, 16, 17, 18, 19, 20, 21, 22, 23, 24, 25, 26, 27, 28, 29, 30, 31, 32, 33, 34, 35, 36, 37, 38, 39] (by decide +kernel) (by decide +kernel)
set_option maxRecDepth 20000 in
theorem gX5_beginAll_X5_noRun : GoodIn wsX5_beginAll (wsV RX5 63 RX5 yX5_noRun wsX5_noRun) := goodIn_app (goodIn_of _ (by decide +kernel)) ggX5_beginAll_X5_noRun
theorem dX5_beginAll_0 : decode cX5_beginAll 0 = .ok (.iconst 0, 1) := by decide +kernel
theorem dX5_beginAll_1 : decode cX5_beginAll 1 = .ok (.istore_n 1, 1) := by decide +kernel
theorem dX5_beginAll_2 : decode cX5_beginAll 2 = .ok (.iload_n 1, 1) := by decide +kernel
theorem dX5_beginAll_3 : decode cX5_beginAll 3 = .ok (.bipush 36, 2) := by decide +kernel
theorem dX5_beginAll_5 : decode cX5_beginAll 5 = .ok (.if_icmp .ge 49, 3) := by decide +kernel
theorem dX5_beginAll_8 : decode cX5_beginAll 8 = .ok (.aload_n 0, 1) := by decide +kernel
theorem dX5_beginAll_9 : decode cX5_beginAll 9 = .ok (.getfield 13, 3) := by decide +kernel
theorem dX5_beginAll_12 : decode cX5_beginAll 12 = .ok (.iload_n 1, 1) := by decide +kernel
theorem dX5_beginAll_13 : decode cX5_beginAll 13 = .ok (.iconst 1, 1) := by decide +kernel
theorem dX5_beginAll_14 : decode cX5_beginAll 14 = .ok (.iastore, 1) := by decide +kernel
theorem dX5_beginAll_15 : decode cX5_beginAll 15 = .ok (.iload_n 1, 1) := by decide +kernel
theorem dX5_beginAll_16 : decode cX5_beginAll 16 = .ok (.bipush 30, 2) := by decide +kernel
theorem dX5_beginAll_18 : decode cX5_beginAll 18 = .ok (.if_icmp .ge 10, 3) := by decide +kernel
theorem dX5_beginAll_21 : decode cX5_beginAll 21 = .ok (.aload_n 0, 1) := by decide +kernel
theorem dX5_beginAll_22 : decode cX5_beginAll 22 = .ok (.getfield 16, 3) := by decide +kernel
theorem dX5_beginAll_25 : decode cX5_beginAll 25 = .ok (.iload_n 1, 1) := by decide +kernel
theorem dX5_beginAll_26 : decode cX5_beginAll 26 = .ok (.iconst 1, 1) := by decide +kernel
theorem dX5_beginAll_27 : decode cX5_beginAll 27 = .ok (.iastore, 1) := by decide +kernel
theorem dX5_beginAll_28 : decode cX5_beginAll 28 = .ok (.iload_n 1, 1) := by decide +kernel
theorem dX5_beginAll_29 : decode cX5_beginAll 29 = .ok (.bipush 6, 2) := by decide +kernel
theorem dX5_beginAll_31 : decode cX5_beginAll 31 = .ok (.if_icmp .ge 17, 3) := by decide +kernel
theorem dX5_beginAll_34 : decode cX5_beginAll 34 = .ok (.aload_n 0, 1) := by decide +kernel
theorem dX5_beginAll_35 : decode cX5_beginAll 35 = .ok (.getfield 7, 3) := by decide +kernel
theorem dX5_beginAll_38 : decode cX5_beginAll 38 = .ok (.iload_n 1, 1) := by decide +kernel
theorem dX5_beginAll_39 : decode cX5_beginAll 39 = .ok (.iconst 1, 1) := by decide +kernel
theorem dX5_beginAll_40 : decode cX5_beginAll 40 = .ok (.iastore, 1) := by decide +kernel
theorem dX5_beginAll_41 : decode cX5_beginAll 41 = .ok (.aload_n 0, 1) := by decide +kernel
theorem dX5_beginAll_42 : decode cX5_beginAll 42 = .ok (.getfield 19, 3) := by decide +kernel
theorem dX5_beginAll_45 : decode cX5_beginAll 45 = .ok (.iload_n 1, 1) := by decide +kernel
theorem dX5_beginAll_46 : decode cX5_beginAll 46 = .ok (.iconst 0, 1) := by decide +kernel
theorem dX5_beginAll_47 : decode cX5_beginAll 47 = .ok (.iastore, 1) := by decide +kernel
theorem dX5_beginAll_48 : decode cX5_beginAll 48 = .ok (.iinc 1 1, 3) := by decide +kernel
theorem dX5_beginAll_51 : decode cX5_beginAll 51 = .ok (.goto (-49), 3) := by decide +kernel
theorem dX5_beginAll_54 : decode cX5_beginAll 54 = .ok (.aload_n 0, 1) := by decide +kernel
theorem dX5_beginAll_55 : decode cX5_beginAll 55 = .ok (.iconst 0, 1) := by decide +kernel
theorem dX5_beginAll_56 : decode cX5_beginAll 56 = .ok (.putfield 60, 3) := by decide +kernel
theorem dX5_beginAll_59 : decode cX5_beginAll 59 = .ok (.aload_n 0, 1) := by decide +kernel
theorem dX5_beginAll_60 : decode cX5_beginAll 60 = .ok (.invokevirtual 63, 3) := by decide +kernel
theorem dX5_beginAll_63 : decode cX5_beginAll 63 = .ok (.return_, 1) := by decide +kernel
theorem dX5_noRun_0 : decode cX5_noRun 0 = .ok (.aload_n 0, 1) := by decide +kernel
theorem dX5_noRun_1 : decode cX5_noRun 1 = .ok (.iconst 0, 1) := by decide +kernel
theorem dX5_noRun_2 : decode cX5_noRun 2 = .ok (.putfield 66, 3) := by decide +kernel
theorem dX5_noRun_5 : decode cX5_noRun 5 = .ok (.aload_n 0, 1) := by decide +kernel
theorem dX5_noRun_6 : decode cX5_noRun 6 = .ok (.iconst 0, 1) := by decide +kernel
theorem dX5_noRun_7 : decode cX5_noRun 7 = .ok (.putfield 69, 3) := by decide +kernel
theorem dX5_noRun_10 : decode cX5_noRun 10 = .ok (.aload_n 0, 1) := by decide +kernel
theorem dX5_noRun_11 : decode cX5_noRun 11 = .ok (.iconst 0, 1) := by decide +kernel
theorem dX5_noRun_12 : decode cX5_noRun 12 = .ok (.putfield 72, 3) := by decide +kernel
theorem dX5_noRun_15 : decode cX5_noRun 15 = .ok (.aload_n 0, 1) := by decide +kernel
theorem dX5_noRun_16 : decode cX5_noRun 16 = .ok (.ldc 75, 2) := by decide +kernel
theorem dX5_noRun_18 : decode cX5_noRun 18 = .ok (.putfield 76, 3) := by decide +kernel
theorem dX5_noRun_21 : decode cX5_noRun 21 = .ok (.aload_n 0, 1) := by decide +kernel
theorem dX5_noRun_22 : decode cX5_noRun 22 = .ok (.iconst 0, 1) := by decide +kernel
theorem dX5_noRun_23 : decode cX5_noRun 23 = .ok (.putfield 79, 3) := by decide +kernel
theorem dX5_noRun_26 : decode cX5_noRun 26 = .ok (.return_, 1) := by decide +kernel
set_option maxRecDepth 20000 in
theorem ggX5_isState_X5_in : GoodIn wsX5_isState wsX5_in := goodIn_r _ [4] (by decide +kernel) (by decide +kernel)
set_option maxRecDepth 20000 in
theorem gX5_isState_X5_in : GoodIn wsX5_isState (va_wsS RX5 83 yX5_in wsX5_in) := goodIn_app (goodIn_of _ (by decide +kernel)) ggX5_isState_X5_in
theorem dX5_isState_0 : decode cX5_isState 0 = .ok (.iload_n 0, 1) := by decide +kernel
theorem dX5_isState_1 : decode cX5_isState 1 = .ok (.iconst 0, 1) := by decide +kernel
theorem dX5_isState_2 : decode cX5_isState 2 = .ok (.iconst 5, 1) := by decide +kernel
theorem dX5_isState_3 : decode cX5_isState 3 = .ok (.invokestatic 83, 3) := by decide +kernel
theorem dX5_isState_6 : decode cX5_isState 6 = .ok (.ireturn, 1) := by decide +kernel
set_option maxRecDepth 20000 in
theorem ggX5_start_X5_isState : GoodIn wsX5_start wsX5_isState := goodIn_r _ [7, 8, 9, 6, 10] (by decide +kernel) (by decide +kernel)
set_option maxRecDepth 20000 in
theorem gX5_start_X5_isState : GoodIn wsX5_start (va_wsS RX5 87 yX5_isState wsX5_isState) := goodIn_app (goodIn_of _ (by decide +kernel)) ggX5_start_X5_isState
set_option maxRecDepth 20000 in
theorem ggX5_start_X5_in : GoodIn wsX5_start wsX5_in := goodIn_r _ [10] (by decide +kernel) (by decide +kernel)
set_option maxRecDepth 20000 in
theorem gX5_start_X5_in : GoodIn wsX5_start (va_wsS RX5 83 yX5_in wsX5_in) := goodIn_app (goodIn_of _ (by decide +kernel)) ggX5_start_X5_in
theorem dX5_start_0 : decode cX5_start 0 = .ok (.iload_n 1, 1) := by decide +kernel
theorem dX5_start_1 : decode cX5_start 1 = .ok (.invokestatic 87, 3) := by decide +kernel
theorem dX5_start_4 : decode cX5_start 4 = .ok (.ifCond .ne 6, 3) := by decide +kernel
theorem dX5_start_7 : decode cX5_start 7 = .ok (.ldc 91, 2) := by decide +kernel
theorem dX5_start_9 : decode cX5_start 9 = .ok (.ireturn, 1) := by decide +kernel
theorem dX5_start_10 : decode cX5_start 10 = .ok (.iload_n 2, 1) := by decide +kernel
theorem dX5_start_11 : decode cX5_start 11 = .ok (.iconst 0, 1) := by decide +kernel
theorem dX5_start_12 : decode cX5_start 12 = .ok (.bipush 9, 2) := by decide +kernel
theorem dX5_start_14 : decode cX5_start 14 = .ok (.invokestatic 83, 3) := by decide +kernel
theorem dX5_start_17 : decode cX5_start 17 = .ok (.ifCond .ne 6, 3) := by decide +kernel
theorem dX5_start_20 : decode cX5_start 20 = .ok (.ldc 92, 2) := by decide +kernel
theorem dX5_start_22 : decode cX5_start 22 = .ok (.ireturn, 1) := by decide +kernel
theorem dX5_start_23 : decode cX5_start 23 = .ok (.aload_n 0, 1) := by decide +kernel
theorem dX5_start_24 : decode cX5_start 24 = .ok (.getfield 7, 3) := by decide +kernel
theorem dX5_start_27 : decode cX5_start 27 = .ok (.iload_n 1, 1) := by decide +kernel
theorem dX5_start_28 : decode cX5_start 28 = .ok (.iaload, 1) := by decide +kernel
theorem dX5_start_29 : decode cX5_start 29 = .ok (.istore_n 3, 1) := by decide +kernel
theorem dX5_start_30 : decode cX5_start 30 = .ok (.aload_n 0, 1) := by decide +kernel
theorem dX5_start_31 : decode cX5_start 31 = .ok (.getfield 7, 3) := by decide +kernel
theorem dX5_start_34 : decode cX5_start 34 = .ok (.iload_n 1, 1) := by decide +kernel
theorem dX5_start_35 : decode cX5_start 35 = .ok (.iload_n 2, 1) := by decide +kernel
theorem dX5_start_36 : decode cX5_start 36 = .ok (.iastore, 1) := by decide +kernel
theorem dX5_start_37 : decode cX5_start 37 = .ok (.iload_n 3, 1) := by decide +kernel
theorem dX5_start_38 : decode cX5_start 38 = .ok (.ireturn, 1) := by decide +kernel
set_option maxRecDepth 20000 in
theorem ggX5_move_X5_isState : GoodIn wsX5_move wsX5_isState := goodIn_r _ [7, 8, 9, 6, 10] (by decide +kernel) (by decide +kernel)
set_option maxRecDepth 20000 in
theorem gX5_move_X5_isState : GoodIn wsX5_move (va_wsS RX5 87 yX5_isState wsX5_isState) := goodIn_app (goodIn_of _ (by decide +kernel)) ggX5_move_X5_isState
set_option maxRecDepth 20000 in
theorem ggX5_move_X5_in : GoodIn wsX5_move wsX5_in := goodIn_r _ [10] (by decide +kernel) (by decide +kernel)
set_option maxRecDepth 20000 in
theorem gX5_move_X5_in : GoodIn wsX5_move (va_wsS RX5 83 yX5_in wsX5_in) := goodIn_app (goodIn_of _ (by decide +kernel)) ggX5_move_X5_in
theorem dX5_move_0 : decode cX5_move 0 = .ok (.iload_n 1, 1) := by decide +kernel
theorem dX5_move_1 : decode cX5_move 1 = .ok (.invokestatic 87, 3) := by decide +kernel
theorem dX5_move_4 : decode cX5_move 4 = .ok (.ifCond .eq 10, 3) := by decide +kernel
theorem dX5_move_7 : decode cX5_move 7 = .ok (.iload_n 2, 1) := by decide +kernel
theorem dX5_move_8 : decode cX5_move 8 = .ok (.invokestatic 87, 3) := by decide +kernel
theorem dX5_move_11 : decode cX5_move 11 = .ok (.ifCond .ne 6, 3) := by decide +kernel
theorem dX5_move_14 : decode cX5_move 14 = .ok (.ldc 91, 2) := by decide +kernel
theorem dX5_move_16 : decode cX5_move 16 = .ok (.ireturn, 1) := by decide +kernel
theorem dX5_move_17 : decode cX5_move 17 = .ok (.iload_n 3, 1) := by decide +kernel
theorem dX5_move_18 : decode cX5_move 18 = .ok (.iconst 0, 1) := by decide +kernel
theorem dX5_move_19 : decode cX5_move 19 = .ok (.bipush 9, 2) := by decide +kernel
theorem dX5_move_21 : decode cX5_move 21 = .ok (.invokestatic 83, 3) := by decide +kernel
theorem dX5_move_24 : decode cX5_move 24 = .ok (.ifCond .ne 6, 3) := by decide +kernel
theorem dX5_move_27 : decode cX5_move 27 = .ok (.ldc 92, 2) := by decide +kernel
theorem dX5_move_29 : decode cX5_move 29 = .ok (.ireturn, 1) := by decide +kernel
theorem dX5_move_30 : decode cX5_move 30 = .ok (.aload_n 0, 1) := by decide +kernel
theorem dX5_move_31 : decode cX5_move 31 = .ok (.getfield 13, 3) := by decide +kernel
theorem dX5_move_34 : decode cX5_move 34 = .ok (.bipush 6, 2) := by decide +kernel
theorem dX5_move_36 : decode cX5_move 36 = .ok (.iload_n 1, 1) := by decide +kernel
theorem dX5_move_37 : decode cX5_move 37 = .ok (.imul, 1) := by decide +kernel
theorem dX5_move_38 : decode cX5_move 38 = .ok (.iload_n 2, 1) := by decide +kernel
theorem dX5_move_39 : decode cX5_move 39 = .ok (.iadd, 1) := by decide +kernel
theorem dX5_move_40 : decode cX5_move 40 = .ok (.iaload, 1) := by decide +kernel
theorem dX5_move_41 : decode cX5_move 41 = .ok (.istore 4, 2) := by decide +kernel
theorem dX5_move_43 : decode cX5_move 43 = .ok (.aload_n 0, 1) := by decide +kernel
theorem dX5_move_44 : decode cX5_move 44 = .ok (.getfield 13, 3) := by decide +kernel
theorem dX5_move_47 : decode cX5_move 47 = .ok (.bipush 6, 2) := by decide +kernel
theorem dX5_move_49 : decode cX5_move 49 = .ok (.iload_n 1, 1) := by decide +kernel
theorem dX5_move_50 : decode cX5_move 50 = .ok (.imul, 1) := by decide +kernel
theorem dX5_move_51 : decode cX5_move 51 = .ok (.iload_n 2, 1) := by decide +kernel
theorem dX5_move_52 : decode cX5_move 52 = .ok (.iadd, 1) := by decide +kernel
theorem dX5_move_53 : decode cX5_move 53 = .ok (.iload_n 3, 1) := by decide +kernel
theorem dX5_move_54 : decode cX5_move 54 = .ok (.iastore, 1) := by decide +kernel
theorem dX5_move_55 : decode cX5_move 55 = .ok (.iload 4, 2) := by decide +kernel
theorem dX5_move_57 : decode cX5_move 57 = .ok (.ireturn, 1) := by decide +kernel
set_option maxRecDepth 20000 in
theorem ggX5_seen_X5_in : GoodIn wsX5_seen wsX5_in := goodIn_r _ [7] (by decide +kernel) (by decide +kernel)
set_option maxRecDepth 20000 in
theorem gX5_seen_X5_in : GoodIn wsX5_seen (va_wsS RX5 83 yX5_in wsX5_in) := goodIn_app (goodIn_of _ (by decide +kernel)) ggX5_seen_X5_in
set_option maxRecDepth 20000 in
theorem ggX5_seen_X5_isState : GoodIn wsX5_seen wsX5_isState := goodIn_r _ [10, 4, 5, 6, 7] (by decide +kernel) (by decide +kernel)
set_option maxRecDepth 20000 in
theorem gX5_seen_X5_isState : GoodIn wsX5_seen (va_wsS RX5 87 yX5_isState wsX5_isState) := goodIn_app (goodIn_of _ (by decide +kernel)) ggX5_seen_X5_isState
theorem dX5_seen_0 : decode cX5_seen 0 = .ok (.iload_n 1, 1) := by decide +kernel
theorem dX5_seen_1 : decode cX5_seen 1 = .ok (.iconst 0, 1) := by decide +kernel
theorem dX5_seen_2 : decode cX5_seen 2 = .ok (.iconst 4, 1) := by decide +kernel
theorem dX5_seen_3 : decode cX5_seen 3 = .ok (.invokestatic 83, 3) := by decide +kernel
theorem dX5_seen_6 : decode cX5_seen 6 = .ok (.ifCond .eq 10, 3) := by decide +kernel
theorem dX5_seen_9 : decode cX5_seen 9 = .ok (.iload_n 2, 1) := by decide +kernel
theorem dX5_seen_10 : decode cX5_seen 10 = .ok (.invokestatic 87, 3) := by decide +kernel
theorem dX5_seen_13 : decode cX5_seen 13 = .ok (.ifCond .ne 6, 3) := by decide +kernel
theorem dX5_seen_16 : decode cX5_seen 16 = .ok (.ldc 91, 2) := by decide +kernel
theorem dX5_seen_18 : decode cX5_seen 18 = .ok (.ireturn, 1) := by decide +kernel
theorem dX5_seen_19 : decode cX5_seen 19 = .ok (.iload_n 3, 1) := by decide +kernel
theorem dX5_seen_20 : decode cX5_seen 20 = .ok (.iconst 0, 1) := by decide +kernel
theorem dX5_seen_21 : decode cX5_seen 21 = .ok (.bipush 9, 2) := by decide +kernel
theorem dX5_seen_23 : decode cX5_seen 23 = .ok (.invokestatic 83, 3) := by decide +kernel
theorem dX5_seen_26 : decode cX5_seen 26 = .ok (.ifCond .ne 6, 3) := by decide +kernel
theorem dX5_seen_29 : decode cX5_seen 29 = .ok (.ldc 92, 2) := by decide +kernel
theorem dX5_seen_31 : decode cX5_seen 31 = .ok (.ireturn, 1) := by decide +kernel
theorem dX5_seen_32 : decode cX5_seen 32 = .ok (.aload_n 0, 1) := by decide +kernel
theorem dX5_seen_33 : decode cX5_seen 33 = .ok (.getfield 16, 3) := by decide +kernel
theorem dX5_seen_36 : decode cX5_seen 36 = .ok (.bipush 6, 2) := by decide +kernel
theorem dX5_seen_38 : decode cX5_seen 38 = .ok (.iload_n 1, 1) := by decide +kernel
theorem dX5_seen_39 : decode cX5_seen 39 = .ok (.imul, 1) := by decide +kernel
theorem dX5_seen_40 : decode cX5_seen 40 = .ok (.iload_n 2, 1) := by decide +kernel
theorem dX5_seen_41 : decode cX5_seen 41 = .ok (.iadd, 1) := by decide +kernel
theorem dX5_seen_42 : decode cX5_seen 42 = .ok (.iaload, 1) := by decide +kernel
theorem dX5_seen_43 : decode cX5_seen 43 = .ok (.istore 4, 2) := by decide +kernel
theorem dX5_seen_45 : decode cX5_seen 45 = .ok (.aload_n 0, 1) := by decide +kernel
theorem dX5_seen_46 : decode cX5_seen 46 = .ok (.getfield 16, 3) := by decide +kernel
theorem dX5_seen_49 : decode cX5_seen 49 = .ok (.bipush 6, 2) := by decide +kernel
theorem dX5_seen_51 : decode cX5_seen 51 = .ok (.iload_n 1, 1) := by decide +kernel
theorem dX5_seen_52 : decode cX5_seen 52 = .ok (.imul, 1) := by decide +kernel
theorem dX5_seen_53 : decode cX5_seen 53 = .ok (.iload_n 2, 1) := by decide +kernel
theorem dX5_seen_54 : decode cX5_seen 54 = .ok (.iadd, 1) := by decide +kernel
theorem dX5_seen_55 : decode cX5_seen 55 = .ok (.iload_n 3, 1) := by decide +kernel
theorem dX5_seen_56 : decode cX5_seen 56 = .ok (.iastore, 1) := by decide +kernel
theorem dX5_seen_57 : decode cX5_seen 57 = .ok (.iload 4, 2) := by decide +kernel
theorem dX5_seen_59 : decode cX5_seen 59 = .ok (.ireturn, 1) := by decide +kernel
set_option maxRecDepth 20000 in
theorem ggX5_named_X5_isState : GoodIn wsX5_named wsX5_isState := goodIn_r _ [7, 8, 9, 6, 10] (by decide +kernel) (by decide +kernel)
set_option maxRecDepth 20000 in
theorem gX5_named_X5_isState : GoodIn wsX5_named (va_wsS RX5 87 yX5_isState wsX5_isState) := goodIn_app (goodIn_of _ (by decide +kernel)) ggX5_named_X5_isState
set_option maxRecDepth 20000 in
theorem ggX5_named_X5_in : GoodIn wsX5_named wsX5_in := goodIn_r _ [10] (by decide +kernel) (by decide +kernel)
set_option maxRecDepth 20000 in
theorem gX5_named_X5_in : GoodIn wsX5_named (va_wsS RX5 83 yX5_in wsX5_in) := goodIn_app (goodIn_of _ (by decide +kernel)) ggX5_named_X5_in
theorem dX5_named_0 : decode cX5_named 0 = .ok (.iload_n 1, 1) := by decide +kernel
theorem dX5_named_1 : decode cX5_named 1 = .ok (.invokestatic 87, 3) := by decide +kernel
theorem dX5_named_4 : decode cX5_named 4 = .ok (.ifCond .ne 6, 3) := by decide +kernel
theorem dX5_named_7 : decode cX5_named 7 = .ok (.ldc 91, 2) := by decide +kernel
theorem dX5_named_9 : decode cX5_named 9 = .ok (.ireturn, 1) := by decide +kernel
theorem dX5_named_10 : decode cX5_named 10 = .ok (.iload_n 2, 1) := by decide +kernel
theorem dX5_named_11 : decode cX5_named 11 = .ok (.iconst 0, 1) := by decide +kernel
theorem dX5_named_12 : decode cX5_named 12 = .ok (.iconst 3, 1) := by decide +kernel
theorem dX5_named_13 : decode cX5_named 13 = .ok (.invokestatic 83, 3) := by decide +kernel
theorem dX5_named_16 : decode cX5_named 16 = .ok (.ifCond .ne 6, 3) := by decide +kernel
theorem dX5_named_19 : decode cX5_named 19 = .ok (.ldc 92, 2) := by decide +kernel
theorem dX5_named_21 : decode cX5_named 21 = .ok (.ireturn, 1) := by decide +kernel
theorem dX5_named_22 : decode cX5_named 22 = .ok (.aload_n 0, 1) := by decide +kernel
theorem dX5_named_23 : decode cX5_named 23 = .ok (.getfield 19, 3) := by decide +kernel
theorem dX5_named_26 : decode cX5_named 26 = .ok (.iload_n 1, 1) := by decide +kernel
theorem dX5_named_27 : decode cX5_named 27 = .ok (.iaload, 1) := by decide +kernel
theorem dX5_named_28 : decode cX5_named 28 = .ok (.istore_n 3, 1) := by decide +kernel
theorem dX5_named_29 : decode cX5_named 29 = .ok (.aload_n 0, 1) := by decide +kernel
theorem dX5_named_30 : decode cX5_named 30 = .ok (.getfield 19, 3) := by decide +kernel
theorem dX5_named_33 : decode cX5_named 33 = .ok (.iload_n 1, 1) := by decide +kernel
theorem dX5_named_34 : decode cX5_named 34 = .ok (.iload_n 2, 1) := by decide +kernel
theorem dX5_named_35 : decode cX5_named 35 = .ok (.iastore, 1) := by decide +kernel
theorem dX5_named_36 : decode cX5_named 36 = .ok (.iload_n 3, 1) := by decide +kernel
theorem dX5_named_37 : decode cX5_named 37 = .ok (.ireturn, 1) := by decide +kernel
theorem dX5_force_0 : decode cX5_force 0 = .ok (.iload_n 1, 1) := by decide +kernel
theorem dX5_force_1 : decode cX5_force 1 = .ok (.ifCond .lt 12, 3) := by decide +kernel
theorem dX5_force_4 : decode cX5_force 4 = .ok (.aload_n 0, 1) := by decide +kernel
theorem dX5_force_5 : decode cX5_force 5 = .ok (.getfield 60, 3) := by decide +kernel
theorem dX5_force_8 : decode cX5_force 8 = .ok (.bipush 64, 2) := by decide +kernel
theorem dX5_force_10 : decode cX5_force 10 = .ok (.if_icmp .ne 6, 3) := by decide +kernel
theorem dX5_force_13 : decode cX5_force 13 = .ok (.ldc 92, 2) := by decide +kernel
theorem dX5_force_15 : decode cX5_force 15 = .ok (.ireturn, 1) := by decide +kernel
theorem dX5_force_16 : decode cX5_force 16 = .ok (.aload_n 0, 1) := by decide +kernel
theorem dX5_force_17 : decode cX5_force 17 = .ok (.getfield 22, 3) := by decide +kernel
theorem dX5_force_20 : decode cX5_force 20 = .ok (.aload_n 0, 1) := by decide +kernel
theorem dX5_force_21 : decode cX5_force 21 = .ok (.getfield 60, 3) := by decide +kernel
theorem dX5_force_24 : decode cX5_force 24 = .ok (.iload_n 1, 1) := by decide +kernel
theorem dX5_force_25 : decode cX5_force 25 = .ok (.iastore, 1) := by decide +kernel
theorem dX5_force_26 : decode cX5_force 26 = .ok (.aload_n 0, 1) := by decide +kernel
theorem dX5_force_27 : decode cX5_force 27 = .ok (.dup, 1) := by decide +kernel
theorem dX5_force_28 : decode cX5_force 28 = .ok (.getfield 60, 3) := by decide +kernel
theorem dX5_force_31 : decode cX5_force 31 = .ok (.iconst 1, 1) := by decide +kernel
theorem dX5_force_32 : decode cX5_force 32 = .ok (.iadd, 1) := by decide +kernel
theorem dX5_force_33 : decode cX5_force 33 = .ok (.putfield 60, 3) := by decide +kernel
theorem dX5_force_36 : decode cX5_force 36 = .ok (.aload_n 0, 1) := by decide +kernel
theorem dX5_force_37 : decode cX5_force 37 = .ok (.getfield 60, 3) := by decide +kernel
theorem dX5_force_40 : decode cX5_force 40 = .ok (.ireturn, 1) := by decide +kernel
theorem dX5_draw_0 : decode cX5_draw 0 = .ok (.aload_n 0, 1) := by decide +kernel
theorem dX5_draw_1 : decode cX5_draw 1 = .ok (.getfield 60, 3) := by decide +kernel
theorem dX5_draw_4 : decode cX5_draw 4 = .ok (.ifCond .le 58, 3) := by decide +kernel
theorem dX5_draw_7 : decode cX5_draw 7 = .ok (.aload_n 0, 1) := by decide +kernel
theorem dX5_draw_8 : decode cX5_draw 8 = .ok (.getfield 22, 3) := by decide +kernel
theorem dX5_draw_11 : decode cX5_draw 11 = .ok (.iconst 0, 1) := by decide +kernel
theorem dX5_draw_12 : decode cX5_draw 12 = .ok (.iaload, 1) := by decide +kernel
theorem dX5_draw_13 : decode cX5_draw 13 = .ok (.i2l, 1) := by decide +kernel
theorem dX5_draw_14 : decode cX5_draw 14 = .ok (.lstore_n 3, 1) := by decide +kernel
theorem dX5_draw_15 : decode cX5_draw 15 = .ok (.aload_n 0, 1) := by decide +kernel
theorem dX5_draw_16 : decode cX5_draw 16 = .ok (.dup, 1) := by decide +kernel
theorem dX5_draw_17 : decode cX5_draw 17 = .ok (.getfield 60, 3) := by decide +kernel
theorem dX5_draw_20 : decode cX5_draw 20 = .ok (.iconst 1, 1) := by decide +kernel
theorem dX5_draw_21 : decode cX5_draw 21 = .ok (.isub, 1) := by decide +kernel
theorem dX5_draw_22 : decode cX5_draw 22 = .ok (.putfield 60, 3) := by decide +kernel
theorem dX5_draw_25 : decode cX5_draw 25 = .ok (.iconst 0, 1) := by decide +kernel
theorem dX5_draw_26 : decode cX5_draw 26 = .ok (.istore 5, 2) := by decide +kernel
theorem dX5_draw_28 : decode cX5_draw 28 = .ok (.iload 5, 2) := by decide +kernel
theorem dX5_draw_30 : decode cX5_draw 30 = .ok (.aload_n 0, 1) := by decide +kernel
theorem dX5_draw_31 : decode cX5_draw 31 = .ok (.getfield 60, 3) := by decide +kernel
theorem dX5_draw_34 : decode cX5_draw 34 = .ok (.if_icmp .ge 25, 3) := by decide +kernel
theorem dX5_draw_37 : decode cX5_draw 37 = .ok (.aload_n 0, 1) := by decide +kernel
theorem dX5_draw_38 : decode cX5_draw 38 = .ok (.getfield 22, 3) := by decide +kernel
theorem dX5_draw_41 : decode cX5_draw 41 = .ok (.iload 5, 2) := by decide +kernel
theorem dX5_draw_43 : decode cX5_draw 43 = .ok (.aload_n 0, 1) := by decide +kernel
theorem dX5_draw_44 : decode cX5_draw 44 = .ok (.getfield 22, 3) := by decide +kernel
theorem dX5_draw_47 : decode cX5_draw 47 = .ok (.iload 5, 2) := by decide +kernel
theorem dX5_draw_49 : decode cX5_draw 49 = .ok (.iconst 1, 1) := by decide +kernel
theorem dX5_draw_50 : decode cX5_draw 50 = .ok (.iadd, 1) := by decide +kernel
theorem dX5_draw_51 : decode cX5_draw 51 = .ok (.iaload, 1) := by decide +kernel
theorem dX5_draw_52 : decode cX5_draw 52 = .ok (.iastore, 1) := by decide +kernel
theorem dX5_draw_53 : decode cX5_draw 53 = .ok (.iinc 5 1, 3) := by decide +kernel
theorem dX5_draw_56 : decode cX5_draw 56 = .ok (.goto (-28), 3) := by decide +kernel
theorem dX5_draw_59 : decode cX5_draw 59 = .ok (.goto 27, 3) := by decide +kernel
theorem dX5_draw_62 : decode cX5_draw 62 = .ok (.aload_n 0, 1) := by decide +kernel
theorem dX5_draw_63 : decode cX5_draw 63 = .ok (.aload_n 0, 1) := by decide +kernel
theorem dX5_draw_64 : decode cX5_draw 64 = .ok (.getfield 93, 3) := by decide +kernel
theorem dX5_draw_67 : decode cX5_draw 67 = .ok (.ldc2_w 97, 3) := by decide +kernel
theorem dX5_draw_70 : decode cX5_draw 70 = .ok (.lmul, 1) := by decide +kernel
theorem dX5_draw_71 : decode cX5_draw 71 = .ok (.ldc2_w 99, 3) := by decide +kernel
theorem dX5_draw_74 : decode cX5_draw 74 = .ok (.ladd, 1) := by decide +kernel
theorem dX5_draw_75 : decode cX5_draw 75 = .ok (.putfield 93, 3) := by decide +kernel
theorem dX5_draw_78 : decode cX5_draw 78 = .ok (.aload_n 0, 1) := by decide +kernel
theorem dX5_draw_79 : decode cX5_draw 79 = .ok (.getfield 93, 3) := by decide +kernel
theorem dX5_draw_82 : decode cX5_draw 82 = .ok (.bipush 33, 2) := by decide +kernel
theorem dX5_draw_84 : decode cX5_draw 84 = .ok (.lushr, 1) := by decide +kernel
theorem dX5_draw_85 : decode cX5_draw 85 = .ok (.lstore_n 3, 1) := by decide +kernel
theorem dX5_draw_86 : decode cX5_draw 86 = .ok (.lload_n 3, 1) := by decide +kernel
theorem dX5_draw_87 : decode cX5_draw 87 = .ok (.lload_n 1, 1) := by decide +kernel
theorem dX5_draw_88 : decode cX5_draw 88 = .ok (.lrem, 1) := by decide +kernel
theorem dX5_draw_89 : decode cX5_draw 89 = .ok (.lreturn, 1) := by decide +kernel
theorem dX5_sumBy_0 : decode cX5_sumBy 0 = .ok (.lconst 0, 1) := by decide +kernel
theorem dX5_sumBy_1 : decode cX5_sumBy 1 = .ok (.lstore_n 2, 1) := by decide +kernel
theorem dX5_sumBy_2 : decode cX5_sumBy 2 = .ok (.iconst 0, 1) := by decide +kernel
theorem dX5_sumBy_3 : decode cX5_sumBy 3 = .ok (.istore 4, 2) := by decide +kernel
theorem dX5_sumBy_5 : decode cX5_sumBy 5 = .ok (.iload 4, 2) := by decide +kernel
theorem dX5_sumBy_7 : decode cX5_sumBy 7 = .ok (.iload_n 1, 1) := by decide +kernel
theorem dX5_sumBy_8 : decode cX5_sumBy 8 = .ok (.if_icmp .ge 19, 3) := by decide +kernel
theorem dX5_sumBy_11 : decode cX5_sumBy 11 = .ok (.lload_n 2, 1) := by decide +kernel
theorem dX5_sumBy_12 : decode cX5_sumBy 12 = .ok (.aload_n 0, 1) := by decide +kernel
theorem dX5_sumBy_13 : decode cX5_sumBy 13 = .ok (.getfield 38, 3) := by decide +kernel
theorem dX5_sumBy_16 : decode cX5_sumBy 16 = .ok (.iload 4, 2) := by decide +kernel
theorem dX5_sumBy_18 : decode cX5_sumBy 18 = .ok (.laload, 1) := by decide +kernel
theorem dX5_sumBy_19 : decode cX5_sumBy 19 = .ok (.ladd, 1) := by decide +kernel
theorem dX5_sumBy_20 : decode cX5_sumBy 20 = .ok (.lstore_n 2, 1) := by decide +kernel
theorem dX5_sumBy_21 : decode cX5_sumBy 21 = .ok (.iinc 4 1, 3) := by decide +kernel
theorem dX5_sumBy_24 : decode cX5_sumBy 24 = .ok (.goto (-19), 3) := by decide +kernel
theorem dX5_sumBy_27 : decode cX5_sumBy 27 = .ok (.lload_n 2, 1) := by decide +kernel
theorem dX5_sumBy_28 : decode cX5_sumBy 28 = .ok (.lreturn, 1) := by decide +kernel
set_option maxRecDepth 20000 in
theorem ggX5_drawBy_X5_sumBy : GoodIn wsX5_drawBy wsX5_sumBy := goodIn_ca (goodIn_r _ [6, 1, 16, 17, 18, 19, 20, 21, 22, 23, 24, 25, 26, 27, 28, 29, 30, 31, 32, 33, 34, 35, 36, 37, 38] (by decide +kernel) (by decide +kernel)) (goodIn_sub (fun _ h => List.mem_cons_of_mem _ (List.mem_append_right _ h)) (by decide +kernel))
set_option maxRecDepth 20000 in
theorem gX5_drawBy_X5_sumBy : GoodIn wsX5_drawBy (wsV RX5 101 RX5 yX5_sumBy wsX5_sumBy) := goodIn_app (goodIn_of _ (by decide +kernel)) ggX5_drawBy_X5_sumBy
set_option maxRecDepth 20000 in
theorem ggX5_drawBy_X5_draw : GoodIn wsX5_drawBy wsX5_draw := goodIn_ca (goodIn_r _ [10, 11, 12, 13, 14, 15, 16, 17, 18, 19, 20, 21, 22, 23, 24, 25, 26, 27, 28, 29, 30, 31, 32, 33, 34, 35, 36, 37, 38] (by decide +kernel) (by decide +kernel)) (goodIn_sub (fun _ h => List.mem_cons_of_mem _ (List.mem_append_right _ h)) (by decide +kernel))
set_option maxRecDepth 20000 in
theorem gX5_drawBy_X5_draw : GoodIn wsX5_drawBy (wsV RX5 105 RX5 yX5_draw wsX5_draw) := goodIn_app (goodIn_of _ (by decide +kernel)) ggX5_drawBy_X5_draw
theorem dX5_drawBy_0 : decode cX5_drawBy 0 = .ok (.aload_n 0, 1) := by decide +kernel
theorem dX5_drawBy_1 : decode cX5_drawBy 1 = .ok (.iload_n 1, 1) := by decide +kernel
theorem dX5_drawBy_2 : decode cX5_drawBy 2 = .ok (.invokevirtual 101, 3) := by decide +kernel
theorem dX5_drawBy_5 : decode cX5_drawBy 5 = .ok (.lstore_n 2, 1) := by decide +kernel
theorem dX5_drawBy_6 : decode cX5_drawBy 6 = .ok (.lload_n 2, 1) := by decide +kernel
theorem dX5_drawBy_7 : decode cX5_drawBy 7 = .ok (.lconst 0, 1) := by decide +kernel
theorem dX5_drawBy_8 : decode cX5_drawBy 8 = .ok (.lcmp, 1) := by decide +kernel
theorem dX5_drawBy_9 : decode cX5_drawBy 9 = .ok (.ifCond .ne 5, 3) := by decide +kernel
theorem dX5_drawBy_12 : decode cX5_drawBy 12 = .ok (.iconst (-1), 1) := by decide +kernel
theorem dX5_drawBy_13 : decode cX5_drawBy 13 = .ok (.ireturn, 1) := by decide +kernel
theorem dX5_drawBy_14 : decode cX5_drawBy 14 = .ok (.aload_n 0, 1) := by decide +kernel
theorem dX5_drawBy_15 : decode cX5_drawBy 15 = .ok (.lload_n 2, 1) := by decide +kernel
theorem dX5_drawBy_16 : decode cX5_drawBy 16 = .ok (.invokevirtual 105, 3) := by decide +kernel
theorem dX5_drawBy_19 : decode cX5_drawBy 19 = .ok (.lstore 4, 2) := by decide +kernel
theorem dX5_drawBy_21 : decode cX5_drawBy 21 = .ok (.lconst 0, 1) := by decide +kernel
theorem dX5_drawBy_22 : decode cX5_drawBy 22 = .ok (.lstore 6, 2) := by decide +kernel
theorem dX5_drawBy_24 : decode cX5_drawBy 24 = .ok (.iconst (-1), 1) := by decide +kernel
theorem dX5_drawBy_25 : decode cX5_drawBy 25 = .ok (.istore 8, 2) := by decide +kernel
theorem dX5_drawBy_27 : decode cX5_drawBy 27 = .ok (.lload 6, 2) := by decide +kernel
theorem dX5_drawBy_29 : decode cX5_drawBy 29 = .ok (.lload 4, 2) := by decide +kernel
theorem dX5_drawBy_31 : decode cX5_drawBy 31 = .ok (.lcmp, 1) := by decide +kernel
theorem dX5_drawBy_32 : decode cX5_drawBy 32 = .ok (.ifCond .gt 21, 3) := by decide +kernel
theorem dX5_drawBy_35 : decode cX5_drawBy 35 = .ok (.iinc 8 1, 3) := by decide +kernel
theorem dX5_drawBy_38 : decode cX5_drawBy 38 = .ok (.lload 6, 2) := by decide +kernel
theorem dX5_drawBy_40 : decode cX5_drawBy 40 = .ok (.aload_n 0, 1) := by decide +kernel
theorem dX5_drawBy_41 : decode cX5_drawBy 41 = .ok (.getfield 38, 3) := by decide +kernel
theorem dX5_drawBy_44 : decode cX5_drawBy 44 = .ok (.iload 8, 2) := by decide +kernel
theorem dX5_drawBy_46 : decode cX5_drawBy 46 = .ok (.laload, 1) := by decide +kernel
theorem dX5_drawBy_47 : decode cX5_drawBy 47 = .ok (.ladd, 1) := by decide +kernel
theorem dX5_drawBy_48 : decode cX5_drawBy 48 = .ok (.lstore 6, 2) := by decide +kernel
theorem dX5_drawBy_50 : decode cX5_drawBy 50 = .ok (.goto (-23), 3) := by decide +kernel
theorem dX5_drawBy_53 : decode cX5_drawBy 53 = .ok (.iload 8, 2) := by decide +kernel
theorem dX5_drawBy_55 : decode cX5_drawBy 55 = .ok (.ireturn, 1) := by decide +kernel
set_option maxRecDepth 20000 in
theorem ggX5_begin_X5_in : GoodIn wsX5_begin wsX5_in := goodIn_r _ [15] (by decide +kernel) (by decide +kernel)
set_option maxRecDepth 20000 in
theorem gX5_begin_X5_in : GoodIn wsX5_begin (va_wsS RX5 83 yX5_in wsX5_in) := goodIn_app (goodIn_of _ (by decide +kernel)) ggX5_begin_X5_in
set_option maxRecDepth 20000 in
theorem ggX5_begin_X5_noRun : GoodIn wsX5_begin wsX5_noRun := goodIn_r _ [19, 10, 20, 21, 22, 23, 24, 41, 42, 43, 44, 45, 46, 47, 48, 49, 50, 51, 52, 53, 54, 55, 56, 57, 58, 59, 60, 61, 62, 63] (by decide +kernel) (by decide +kernel)
set_option maxRecDepth 20000 in
theorem gX5_begin_X5_noRun : GoodIn wsX5_begin (wsV RX5 63 RX5 yX5_noRun wsX5_noRun) := goodIn_app (goodIn_of _ (by decide +kernel)) ggX5_begin_X5_noRun
set_option maxRecDepth 20000 in
theorem ggX5_begin_X5_drawBy : GoodIn wsX5_begin wsX5_drawBy := goodIn_ca (goodIn_r _ [28, 4, 29, 30, 31, 14, 32, 33, 34, 35, 36, 37, 38, 3, 39, 40, 41, 42, 43, 44, 45, 46, 47, 48, 49, 50, 51, 52, 53, 54, 55, 56, 57, 58, 59, 60, 61, 62, 63] (by decide +kernel) (by decide +kernel)) (goodIn_sub (fun _ h => List.mem_cons_of_mem _ (List.mem_append_right _ h)) (by decide +kernel))
set_option maxRecDepth 20000 in
theorem gX5_begin_X5_drawBy : GoodIn wsX5_begin (wsV RX5 110 RX5 yX5_drawBy wsX5_drawBy) := goodIn_app (goodIn_of _ (by decide +kernel)) ggX5_begin_X5_drawBy
theorem dX5_begin_0 : decode cX5_begin 0 = .ok (.iload_n 1, 1) := by decide +kernel
theorem dX5_begin_1 : decode cX5_begin 1 = .ok (.ifCond .ge 6, 3) := by decide +kernel
theorem dX5_begin_4 : decode cX5_begin 4 = .ok (.ldc 109, 2) := by decide +kernel
theorem dX5_begin_6 : decode cX5_begin 6 = .ok (.ireturn, 1) := by decide +kernel
theorem dX5_begin_7 : decode cX5_begin 7 = .ok (.iload_n 1, 1) := by decide +kernel
theorem dX5_begin_8 : decode cX5_begin 8 = .ok (.iconst 1, 1) := by decide +kernel
theorem dX5_begin_9 : decode cX5_begin 9 = .ok (.bipush 16, 2) := by decide +kernel
theorem dX5_begin_11 : decode cX5_begin 11 = .ok (.invokestatic 83, 3) := by decide +kernel
theorem dX5_begin_14 : decode cX5_begin 14 = .ok (.ifCond .ne 6, 3) := by decide +kernel
theorem dX5_begin_17 : decode cX5_begin 17 = .ok (.ldc 92, 2) := by decide +kernel
theorem dX5_begin_19 : decode cX5_begin 19 = .ok (.ireturn, 1) := by decide +kernel
theorem dX5_begin_20 : decode cX5_begin 20 = .ok (.aload_n 0, 1) := by decide +kernel
theorem dX5_begin_21 : decode cX5_begin 21 = .ok (.invokevirtual 63, 3) := by decide +kernel
theorem dX5_begin_24 : decode cX5_begin 24 = .ok (.aload_n 0, 1) := by decide +kernel
theorem dX5_begin_25 : decode cX5_begin 25 = .ok (.lload_n 2, 1) := by decide +kernel
theorem dX5_begin_26 : decode cX5_begin 26 = .ok (.putfield 93, 3) := by decide +kernel
theorem dX5_begin_29 : decode cX5_begin 29 = .ok (.iconst 0, 1) := by decide +kernel
theorem dX5_begin_30 : decode cX5_begin 30 = .ok (.istore 4, 2) := by decide +kernel
theorem dX5_begin_32 : decode cX5_begin 32 = .ok (.iload 4, 2) := by decide +kernel
theorem dX5_begin_34 : decode cX5_begin 34 = .ok (.iload_n 1, 1) := by decide +kernel
theorem dX5_begin_35 : decode cX5_begin 35 = .ok (.if_icmp .ge 85, 3) := by decide +kernel
theorem dX5_begin_38 : decode cX5_begin 38 = .ok (.iconst 0, 1) := by decide +kernel
theorem dX5_begin_39 : decode cX5_begin 39 = .ok (.istore 5, 2) := by decide +kernel
theorem dX5_begin_41 : decode cX5_begin 41 = .ok (.iload 5, 2) := by decide +kernel
theorem dX5_begin_43 : decode cX5_begin 43 = .ok (.bipush 6, 2) := by decide +kernel
theorem dX5_begin_45 : decode cX5_begin 45 = .ok (.if_icmp .ge 24, 3) := by decide +kernel
theorem dX5_begin_48 : decode cX5_begin 48 = .ok (.aload_n 0, 1) := by decide +kernel
theorem dX5_begin_49 : decode cX5_begin 49 = .ok (.getfield 38, 3) := by decide +kernel
theorem dX5_begin_52 : decode cX5_begin 52 = .ok (.iload 5, 2) := by decide +kernel
theorem dX5_begin_54 : decode cX5_begin 54 = .ok (.aload_n 0, 1) := by decide +kernel
theorem dX5_begin_55 : decode cX5_begin 55 = .ok (.getfield 7, 3) := by decide +kernel
theorem dX5_begin_58 : decode cX5_begin 58 = .ok (.iload 5, 2) := by decide +kernel
theorem dX5_begin_60 : decode cX5_begin 60 = .ok (.iaload, 1) := by decide +kernel
theorem dX5_begin_61 : decode cX5_begin 61 = .ok (.i2l, 1) := by decide +kernel
theorem dX5_begin_62 : decode cX5_begin 62 = .ok (.lastore, 1) := by decide +kernel
theorem dX5_begin_63 : decode cX5_begin 63 = .ok (.iinc 5 1, 3) := by decide +kernel
theorem dX5_begin_66 : decode cX5_begin 66 = .ok (.goto (-25), 3) := by decide +kernel
theorem dX5_begin_69 : decode cX5_begin 69 = .ok (.aload_n 0, 1) := by decide +kernel
theorem dX5_begin_70 : decode cX5_begin 70 = .ok (.bipush 6, 2) := by decide +kernel
theorem dX5_begin_72 : decode cX5_begin 72 = .ok (.invokevirtual 110, 3) := by decide +kernel
theorem dX5_begin_75 : decode cX5_begin 75 = .ok (.istore 5, 2) := by decide +kernel
theorem dX5_begin_77 : decode cX5_begin 77 = .ok (.iload 5, 2) := by decide +kernel
theorem dX5_begin_79 : decode cX5_begin 79 = .ok (.ifCond .ge 6, 3) := by decide +kernel
theorem dX5_begin_82 : decode cX5_begin 82 = .ok (.ldc 114, 2) := by decide +kernel
theorem dX5_begin_84 : decode cX5_begin 84 = .ok (.ireturn, 1) := by decide +kernel
theorem dX5_begin_85 : decode cX5_begin 85 = .ok (.aload_n 0, 1) := by decide +kernel
theorem dX5_begin_86 : decode cX5_begin 86 = .ok (.getfield 25, 3) := by decide +kernel
theorem dX5_begin_89 : decode cX5_begin 89 = .ok (.iload 4, 2) := by decide +kernel
theorem dX5_begin_91 : decode cX5_begin 91 = .ok (.iload 5, 2) := by decide +kernel
theorem dX5_begin_93 : decode cX5_begin 93 = .ok (.iastore, 1) := by decide +kernel
theorem dX5_begin_94 : decode cX5_begin 94 = .ok (.aload_n 0, 1) := by decide +kernel
theorem dX5_begin_95 : decode cX5_begin 95 = .ok (.getfield 28, 3) := by decide +kernel
theorem dX5_begin_98 : decode cX5_begin 98 = .ok (.iload 4, 2) := by decide +kernel
theorem dX5_begin_100 : decode cX5_begin 100 = .ok (.lconst 1, 1) := by decide +kernel
theorem dX5_begin_101 : decode cX5_begin 101 = .ok (.lastore, 1) := by decide +kernel
theorem dX5_begin_102 : decode cX5_begin 102 = .ok (.aload_n 0, 1) := by decide +kernel
theorem dX5_begin_103 : decode cX5_begin 103 = .ok (.getfield 32, 3) := by decide +kernel
theorem dX5_begin_106 : decode cX5_begin 106 = .ok (.bipush 31, 2) := by decide +kernel
theorem dX5_begin_108 : decode cX5_begin 108 = .ok (.iload 4, 2) := by decide +kernel
theorem dX5_begin_110 : decode cX5_begin 110 = .ok (.imul, 1) := by decide +kernel
theorem dX5_begin_111 : decode cX5_begin 111 = .ok (.iload 5, 2) := by decide +kernel
theorem dX5_begin_113 : decode cX5_begin 113 = .ok (.iastore, 1) := by decide +kernel
theorem dX5_begin_114 : decode cX5_begin 114 = .ok (.iinc 4 1, 3) := by decide +kernel
theorem dX5_begin_117 : decode cX5_begin 117 = .ok (.goto (-85), 3) := by decide +kernel
theorem dX5_begin_120 : decode cX5_begin 120 = .ok (.aload_n 0, 1) := by decide +kernel
theorem dX5_begin_121 : decode cX5_begin 121 = .ok (.iload_n 1, 1) := by decide +kernel
theorem dX5_begin_122 : decode cX5_begin 122 = .ok (.putfield 66, 3) := by decide +kernel
theorem dX5_begin_125 : decode cX5_begin 125 = .ok (.aload_n 0, 1) := by decide +kernel
theorem dX5_begin_126 : decode cX5_begin 126 = .ok (.dconst 1, 1) := by decide +kernel
theorem dX5_begin_127 : decode cX5_begin 127 = .ok (.putfield 115, 3) := by decide +kernel
theorem dX5_begin_130 : decode cX5_begin 130 = .ok (.iload_n 1, 1) := by decide +kernel
theorem dX5_begin_131 : decode cX5_begin 131 = .ok (.ireturn, 1) := by decide +kernel
set_option maxRecDepth 20000 in
theorem ggX5_isRow_X5_in : GoodIn wsX5_isRow wsX5_in := goodIn_r _ [5] (by decide +kernel) (by decide +kernel)
set_option maxRecDepth 20000 in
theorem gX5_isRow_X5_in : GoodIn wsX5_isRow (va_wsS RX5 83 yX5_in wsX5_in) := goodIn_app (goodIn_of _ (by decide +kernel)) ggX5_isRow_X5_in
theorem dX5_isRow_0 : decode cX5_isRow 0 = .ok (.iload_n 1, 1) := by decide +kernel
theorem dX5_isRow_1 : decode cX5_isRow 1 = .ok (.iconst 0, 1) := by decide +kernel
theorem dX5_isRow_2 : decode cX5_isRow 2 = .ok (.aload_n 0, 1) := by decide +kernel
theorem dX5_isRow_3 : decode cX5_isRow 3 = .ok (.getfield 66, 3) := by decide +kernel
theorem dX5_isRow_6 : decode cX5_isRow 6 = .ok (.iconst 1, 1) := by decide +kernel
theorem dX5_isRow_7 : decode cX5_isRow 7 = .ok (.isub, 1) := by decide +kernel
theorem dX5_isRow_8 : decode cX5_isRow 8 = .ok (.invokestatic 83, 3) := by decide +kernel
theorem dX5_isRow_11 : decode cX5_isRow 11 = .ok (.ireturn, 1) := by decide +kernel
set_option maxRecDepth 20000 in
theorem ggX5_keep_X5_isRow : GoodIn wsX5_keep wsX5_isRow := goodIn_r _ [10, 1, 11, 12, 9, 13, 14, 15, 16, 17, 18, 19, 20, 21, 22, 23, 24, 25, 26, 27, 28, 29, 30, 31, 32, 33, 34, 35, 36] (by decide +kernel) (by decide +kernel)
set_option maxRecDepth 20000 in
theorem gX5_keep_X5_isRow : GoodIn wsX5_keep (wsV RX5 120 RX5 yX5_isRow wsX5_isRow) := goodIn_app (goodIn_of _ (by decide +kernel)) ggX5_keep_X5_isRow
theorem dX5_keep_0 : decode cX5_keep 0 = .ok (.aload_n 0, 1) := by decide +kernel
theorem dX5_keep_1 : decode cX5_keep 1 = .ok (.getfield 66, 3) := by decide +kernel
theorem dX5_keep_4 : decode cX5_keep 4 = .ok (.ifCond .ne 6, 3) := by decide +kernel
theorem dX5_keep_7 : decode cX5_keep 7 = .ok (.ldc 119, 2) := by decide +kernel
theorem dX5_keep_9 : decode cX5_keep 9 = .ok (.ireturn, 1) := by decide +kernel
theorem dX5_keep_10 : decode cX5_keep 10 = .ok (.iload_n 1, 1) := by decide +kernel
theorem dX5_keep_11 : decode cX5_keep 11 = .ok (.ldc 75, 2) := by decide +kernel
theorem dX5_keep_13 : decode cX5_keep 13 = .ok (.if_icmp .eq 14, 3) := by decide +kernel
theorem dX5_keep_16 : decode cX5_keep 16 = .ok (.aload_n 0, 1) := by decide +kernel
theorem dX5_keep_17 : decode cX5_keep 17 = .ok (.iload_n 1, 1) := by decide +kernel
theorem dX5_keep_18 : decode cX5_keep 18 = .ok (.invokevirtual 120, 3) := by decide +kernel
theorem dX5_keep_21 : decode cX5_keep 21 = .ok (.ifCond .ne 6, 3) := by decide +kernel
theorem dX5_keep_24 : decode cX5_keep 24 = .ok (.ldc 91, 2) := by decide +kernel
theorem dX5_keep_26 : decode cX5_keep 26 = .ok (.ireturn, 1) := by decide +kernel
theorem dX5_keep_27 : decode cX5_keep 27 = .ok (.aload_n 0, 1) := by decide +kernel
theorem dX5_keep_28 : decode cX5_keep 28 = .ok (.getfield 76, 3) := by decide +kernel
theorem dX5_keep_31 : decode cX5_keep 31 = .ok (.istore_n 2, 1) := by decide +kernel
theorem dX5_keep_32 : decode cX5_keep 32 = .ok (.aload_n 0, 1) := by decide +kernel
theorem dX5_keep_33 : decode cX5_keep 33 = .ok (.iload_n 1, 1) := by decide +kernel
theorem dX5_keep_34 : decode cX5_keep 34 = .ok (.putfield 76, 3) := by decide +kernel
theorem dX5_keep_37 : decode cX5_keep 37 = .ok (.iload_n 2, 1) := by decide +kernel
theorem dX5_keep_38 : decode cX5_keep 38 = .ok (.ireturn, 1) := by decide +kernel
set_option maxRecDepth 20000 in
theorem ggX5_step_X5_in : GoodIn wsX5_step wsX5_in := goodIn_r _ [20] (by decide +kernel) (by decide +kernel)
set_option maxRecDepth 20000 in
theorem gX5_step_X5_in : GoodIn wsX5_step (va_wsS RX5 83 yX5_in wsX5_in) := goodIn_app (goodIn_of _ (by decide +kernel)) ggX5_step_X5_in
set_option maxRecDepth 20000 in
theorem ggX5_step_X5_drawBy : GoodIn wsX5_step wsX5_drawBy := goodIn_ca (goodIn_r _ [24, 8, 25, 26, 27, 19, 28, 29, 30, 31, 32, 33, 34, 35, 36, 37, 38, 39, 40, 41, 42, 43, 44, 45, 46, 47, 48, 49, 50, 51, 52, 53, 54, 55, 56, 57, 58, 59, 60] (by decide +kernel) (by decide +kernel)) (goodIn_sub (fun _ h => List.mem_cons_of_mem _ (List.mem_append_right _ h)) (by decide +kernel))
set_option maxRecDepth 20000 in
theorem gX5_step_X5_drawBy : GoodIn wsX5_step (wsV RX5 110 RX5 yX5_drawBy wsX5_drawBy) := goodIn_app (goodIn_of _ (by decide +kernel)) ggX5_step_X5_drawBy
theorem dX5_step_0 : decode cX5_step 0 = .ok (.aload_n 0, 1) := by decide +kernel
theorem dX5_step_1 : decode cX5_step 1 = .ok (.getfield 66, 3) := by decide +kernel
theorem dX5_step_4 : decode cX5_step 4 = .ok (.ifCond .ne 6, 3) := by decide +kernel
theorem dX5_step_7 : decode cX5_step 7 = .ok (.ldc 119, 2) := by decide +kernel
theorem dX5_step_9 : decode cX5_step 9 = .ok (.ireturn, 1) := by decide +kernel
theorem dX5_step_10 : decode cX5_step 10 = .ok (.iload_n 1, 1) := by decide +kernel
theorem dX5_step_11 : decode cX5_step 11 = .ok (.iconst 0, 1) := by decide +kernel
theorem dX5_step_12 : decode cX5_step 12 = .ok (.iconst 4, 1) := by decide +kernel
theorem dX5_step_13 : decode cX5_step 13 = .ok (.invokestatic 83, 3) := by decide +kernel
theorem dX5_step_16 : decode cX5_step 16 = .ok (.ifCond .ne 6, 3) := by decide +kernel
theorem dX5_step_19 : decode cX5_step 19 = .ok (.ldc 91, 2) := by decide +kernel
theorem dX5_step_21 : decode cX5_step 21 = .ok (.ireturn, 1) := by decide +kernel
theorem dX5_step_22 : decode cX5_step 22 = .ok (.iload_n 2, 1) := by decide +kernel
theorem dX5_step_23 : decode cX5_step 23 = .ok (.iconst 0, 1) := by decide +kernel
theorem dX5_step_24 : decode cX5_step 24 = .ok (.iconst 3, 1) := by decide +kernel
theorem dX5_step_25 : decode cX5_step 25 = .ok (.invokestatic 83, 3) := by decide +kernel
theorem dX5_step_28 : decode cX5_step 28 = .ok (.ifCond .ne 6, 3) := by decide +kernel
theorem dX5_step_31 : decode cX5_step 31 = .ok (.ldc 92, 2) := by decide +kernel
theorem dX5_step_33 : decode cX5_step 33 = .ok (.ireturn, 1) := by decide +kernel
theorem dX5_step_34 : decode cX5_step 34 = .ok (.aload_n 0, 1) := by decide +kernel
theorem dX5_step_35 : decode cX5_step 35 = .ok (.getfield 69, 3) := by decide +kernel
theorem dX5_step_38 : decode cX5_step 38 = .ok (.bipush 30, 2) := by decide +kernel
theorem dX5_step_40 : decode cX5_step 40 = .ok (.if_icmp .ge 7, 3) := by decide +kernel
theorem dX5_step_43 : decode cX5_step 43 = .ok (.iconst 1, 1) := by decide +kernel
theorem dX5_step_44 : decode cX5_step 44 = .ok (.goto 4, 3) := by decide +kernel
theorem dX5_step_47 : decode cX5_step 47 = .ok (.iconst 0, 1) := by decide +kernel
theorem dX5_step_48 : decode cX5_step 48 = .ok (.istore_n 3, 1) := by decide +kernel
theorem dX5_step_49 : decode cX5_step 49 = .ok (.iconst 0, 1) := by decide +kernel
theorem dX5_step_50 : decode cX5_step 50 = .ok (.istore 4, 2) := by decide +kernel
theorem dX5_step_52 : decode cX5_step 52 = .ok (.iload 4, 2) := by decide +kernel
theorem dX5_step_54 : decode cX5_step 54 = .ok (.aload_n 0, 1) := by decide +kernel
theorem dX5_step_55 : decode cX5_step 55 = .ok (.getfield 66, 3) := by decide +kernel
theorem dX5_step_58 : decode cX5_step 58 = .ok (.if_icmp .ge 35, 3) := by decide +kernel
theorem dX5_step_61 : decode cX5_step 61 = .ok (.iload_n 3, 1) := by decide +kernel
theorem dX5_step_62 : decode cX5_step 62 = .ok (.ifCond .eq 23, 3) := by decide +kernel
theorem dX5_step_65 : decode cX5_step 65 = .ok (.aload_n 0, 1) := by decide +kernel
theorem dX5_step_66 : decode cX5_step 66 = .ok (.getfield 19, 3) := by decide +kernel
theorem dX5_step_69 : decode cX5_step 69 = .ok (.aload_n 0, 1) := by decide +kernel
theorem dX5_step_70 : decode cX5_step 70 = .ok (.getfield 25, 3) := by decide +kernel
theorem dX5_step_73 : decode cX5_step 73 = .ok (.iload 4, 2) := by decide +kernel
theorem dX5_step_75 : decode cX5_step 75 = .ok (.iaload, 1) := by decide +kernel
theorem dX5_step_76 : decode cX5_step 76 = .ok (.iaload, 1) := by decide +kernel
theorem dX5_step_77 : decode cX5_step 77 = .ok (.iload_n 2, 1) := by decide +kernel
theorem dX5_step_78 : decode cX5_step 78 = .ok (.if_icmp .ne 7, 3) := by decide +kernel
theorem dX5_step_81 : decode cX5_step 81 = .ok (.iconst 1, 1) := by decide +kernel
theorem dX5_step_82 : decode cX5_step 82 = .ok (.goto 4, 3) := by decide +kernel
theorem dX5_step_85 : decode cX5_step 85 = .ok (.iconst 0, 1) := by decide +kernel
theorem dX5_step_86 : decode cX5_step 86 = .ok (.istore_n 3, 1) := by decide +kernel
theorem dX5_step_87 : decode cX5_step 87 = .ok (.iinc 4 1, 3) := by decide +kernel
theorem dX5_step_90 : decode cX5_step 90 = .ok (.goto (-38), 3) := by decide +kernel
theorem dX5_step_93 : decode cX5_step 93 = .ok (.iload_n 3, 1) := by decide +kernel
theorem dX5_step_94 : decode cX5_step 94 = .ok (.ifCond .ne 6, 3) := by decide +kernel
theorem dX5_step_97 : decode cX5_step 97 = .ok (.ldc 119, 2) := by decide +kernel
theorem dX5_step_99 : decode cX5_step 99 = .ok (.ireturn, 1) := by decide +kernel
theorem dX5_step_100 : decode cX5_step 100 = .ok (.iconst 0, 1) := by decide +kernel
theorem dX5_step_101 : decode cX5_step 101 = .ok (.istore 4, 2) := by decide +kernel
theorem dX5_step_103 : decode cX5_step 103 = .ok (.iload 4, 2) := by decide +kernel
theorem dX5_step_105 : decode cX5_step 105 = .ok (.aload_n 0, 1) := by decide +kernel
theorem dX5_step_106 : decode cX5_step 106 = .ok (.getfield 66, 3) := by decide +kernel
theorem dX5_step_109 : decode cX5_step 109 = .ok (.if_icmp .ge 77, 3) := by decide +kernel
theorem dX5_step_112 : decode cX5_step 112 = .ok (.iconst 0, 1) := by decide +kernel
theorem dX5_step_113 : decode cX5_step 113 = .ok (.istore 5, 2) := by decide +kernel
theorem dX5_step_115 : decode cX5_step 115 = .ok (.iload 5, 2) := by decide +kernel
theorem dX5_step_117 : decode cX5_step 117 = .ok (.bipush 6, 2) := by decide +kernel
theorem dX5_step_119 : decode cX5_step 119 = .ok (.if_icmp .ge 35, 3) := by decide +kernel
theorem dX5_step_122 : decode cX5_step 122 = .ok (.aload_n 0, 1) := by decide +kernel
theorem dX5_step_123 : decode cX5_step 123 = .ok (.getfield 38, 3) := by decide +kernel
theorem dX5_step_126 : decode cX5_step 126 = .ok (.iload 5, 2) := by decide +kernel
theorem dX5_step_128 : decode cX5_step 128 = .ok (.aload_n 0, 1) := by decide +kernel
theorem dX5_step_129 : decode cX5_step 129 = .ok (.getfield 13, 3) := by decide +kernel
theorem dX5_step_132 : decode cX5_step 132 = .ok (.bipush 6, 2) := by decide +kernel
theorem dX5_step_134 : decode cX5_step 134 = .ok (.aload_n 0, 1) := by decide +kernel
theorem dX5_step_135 : decode cX5_step 135 = .ok (.getfield 25, 3) := by decide +kernel
theorem dX5_step_138 : decode cX5_step 138 = .ok (.iload 4, 2) := by decide +kernel
theorem dX5_step_140 : decode cX5_step 140 = .ok (.iaload, 1) := by decide +kernel
theorem dX5_step_141 : decode cX5_step 141 = .ok (.imul, 1) := by decide +kernel
theorem dX5_step_142 : decode cX5_step 142 = .ok (.iload 5, 2) := by decide +kernel
theorem dX5_step_144 : decode cX5_step 144 = .ok (.iadd, 1) := by decide +kernel
theorem dX5_step_145 : decode cX5_step 145 = .ok (.iaload, 1) := by decide +kernel
theorem dX5_step_146 : decode cX5_step 146 = .ok (.i2l, 1) := by decide +kernel
theorem dX5_step_147 : decode cX5_step 147 = .ok (.lastore, 1) := by decide +kernel
theorem dX5_step_148 : decode cX5_step 148 = .ok (.iinc 5 1, 3) := by decide +kernel
theorem dX5_step_151 : decode cX5_step 151 = .ok (.goto (-36), 3) := by decide +kernel
theorem dX5_step_154 : decode cX5_step 154 = .ok (.aload_n 0, 1) := by decide +kernel
theorem dX5_step_155 : decode cX5_step 155 = .ok (.getfield 41, 3) := by decide +kernel
theorem dX5_step_158 : decode cX5_step 158 = .ok (.iload 4, 2) := by decide +kernel
theorem dX5_step_160 : decode cX5_step 160 = .ok (.aload_n 0, 1) := by decide +kernel
theorem dX5_step_161 : decode cX5_step 161 = .ok (.bipush 6, 2) := by decide +kernel
theorem dX5_step_163 : decode cX5_step 163 = .ok (.invokevirtual 110, 3) := by decide +kernel
theorem dX5_step_166 : decode cX5_step 166 = .ok (.iastore, 1) := by decide +kernel
theorem dX5_step_167 : decode cX5_step 167 = .ok (.aload_n 0, 1) := by decide +kernel
theorem dX5_step_168 : decode cX5_step 168 = .ok (.getfield 41, 3) := by decide +kernel
theorem dX5_step_171 : decode cX5_step 171 = .ok (.iload 4, 2) := by decide +kernel
theorem dX5_step_173 : decode cX5_step 173 = .ok (.iaload, 1) := by decide +kernel
theorem dX5_step_174 : decode cX5_step 174 = .ok (.ifCond .ge 6, 3) := by decide +kernel
theorem dX5_step_177 : decode cX5_step 177 = .ok (.ldc 114, 2) := by decide +kernel
theorem dX5_step_179 : decode cX5_step 179 = .ok (.ireturn, 1) := by decide +kernel
theorem dX5_step_180 : decode cX5_step 180 = .ok (.iinc 4 1, 3) := by decide +kernel
theorem dX5_step_183 : decode cX5_step 183 = .ok (.goto (-80), 3) := by decide +kernel
theorem dX5_step_186 : decode cX5_step 186 = .ok (.iconst 0, 1) := by decide +kernel
theorem dX5_step_187 : decode cX5_step 187 = .ok (.istore 4, 2) := by decide +kernel
theorem dX5_step_189 : decode cX5_step 189 = .ok (.iload 4, 2) := by decide +kernel
theorem dX5_step_191 : decode cX5_step 191 = .ok (.aload_n 0, 1) := by decide +kernel
theorem dX5_step_192 : decode cX5_step 192 = .ok (.getfield 66, 3) := by decide +kernel
theorem dX5_step_195 : decode cX5_step 195 = .ok (.if_icmp .ge 45, 3) := by decide +kernel
theorem dX5_step_198 : decode cX5_step 198 = .ok (.aload_n 0, 1) := by decide +kernel
theorem dX5_step_199 : decode cX5_step 199 = .ok (.getfield 28, 3) := by decide +kernel
theorem dX5_step_202 : decode cX5_step 202 = .ok (.iload 4, 2) := by decide +kernel
theorem dX5_step_204 : decode cX5_step 204 = .ok (.laload, 1) := by decide +kernel
theorem dX5_step_205 : decode cX5_step 205 = .ok (.aload_n 0, 1) := by decide +kernel
theorem dX5_step_206 : decode cX5_step 206 = .ok (.getfield 16, 3) := by decide +kernel
theorem dX5_step_209 : decode cX5_step 209 = .ok (.bipush 6, 2) := by decide +kernel
theorem dX5_step_211 : decode cX5_step 211 = .ok (.iload_n 1, 1) := by decide +kernel
theorem dX5_step_212 : decode cX5_step 212 = .ok (.imul, 1) := by decide +kernel
theorem dX5_step_213 : decode cX5_step 213 = .ok (.aload_n 0, 1) := by decide +kernel
theorem dX5_step_214 : decode cX5_step 214 = .ok (.getfield 41, 3) := by decide +kernel
theorem dX5_step_217 : decode cX5_step 217 = .ok (.iload 4, 2) := by decide +kernel
theorem dX5_step_219 : decode cX5_step 219 = .ok (.iaload, 1) := by decide +kernel
theorem dX5_step_220 : decode cX5_step 220 = .ok (.iadd, 1) := by decide +kernel
theorem dX5_step_221 : decode cX5_step 221 = .ok (.iaload, 1) := by decide +kernel
theorem dX5_step_222 : decode cX5_step 222 = .ok (.i2l, 1) := by decide +kernel
theorem dX5_step_223 : decode cX5_step 223 = .ok (.lmul, 1) := by decide +kernel
theorem dX5_step_224 : decode cX5_step 224 = .ok (.ldc2_w 123, 3) := by decide +kernel
theorem dX5_step_227 : decode cX5_step 227 = .ok (.lcmp, 1) := by decide +kernel
theorem dX5_step_228 : decode cX5_step 228 = .ok (.ifCond .le 6, 3) := by decide +kernel
theorem dX5_step_231 : decode cX5_step 231 = .ok (.ldc 125, 2) := by decide +kernel
theorem dX5_step_233 : decode cX5_step 233 = .ok (.ireturn, 1) := by decide +kernel
theorem dX5_step_234 : decode cX5_step 234 = .ok (.iinc 4 1, 3) := by decide +kernel
theorem dX5_step_237 : decode cX5_step 237 = .ok (.goto (-48), 3) := by decide +kernel
theorem dX5_step_240 : decode cX5_step 240 = .ok (.aload_n 0, 1) := by decide +kernel
theorem dX5_step_241 : decode cX5_step 241 = .ok (.dup, 1) := by decide +kernel
theorem dX5_step_242 : decode cX5_step 242 = .ok (.getfield 69, 3) := by decide +kernel
theorem dX5_step_245 : decode cX5_step 245 = .ok (.iconst 1, 1) := by decide +kernel
theorem dX5_step_246 : decode cX5_step 246 = .ok (.iadd, 1) := by decide +kernel
theorem dX5_step_247 : decode cX5_step 247 = .ok (.putfield 69, 3) := by decide +kernel
theorem dX5_step_250 : decode cX5_step 250 = .ok (.iconst 0, 1) := by decide +kernel
theorem dX5_step_251 : decode cX5_step 251 = .ok (.istore 4, 2) := by decide +kernel
theorem dX5_step_253 : decode cX5_step 253 = .ok (.iload 4, 2) := by decide +kernel
theorem dX5_step_255 : decode cX5_step 255 = .ok (.aload_n 0, 1) := by decide +kernel
theorem dX5_step_256 : decode cX5_step 256 = .ok (.getfield 66, 3) := by decide +kernel
theorem dX5_step_259 : decode cX5_step 259 = .ok (.if_icmp .ge 73, 3) := by decide +kernel
theorem dX5_step_262 : decode cX5_step 262 = .ok (.aload_n 0, 1) := by decide +kernel
theorem dX5_step_263 : decode cX5_step 263 = .ok (.getfield 25, 3) := by decide +kernel
theorem dX5_step_266 : decode cX5_step 266 = .ok (.iload 4, 2) := by decide +kernel
theorem dX5_step_268 : decode cX5_step 268 = .ok (.aload_n 0, 1) := by decide +kernel
theorem dX5_step_269 : decode cX5_step 269 = .ok (.getfield 41, 3) := by decide +kernel
theorem dX5_step_272 : decode cX5_step 272 = .ok (.iload 4, 2) := by decide +kernel
theorem dX5_step_274 : decode cX5_step 274 = .ok (.iaload, 1) := by decide +kernel
theorem dX5_step_275 : decode cX5_step 275 = .ok (.iastore, 1) := by decide +kernel
theorem dX5_step_276 : decode cX5_step 276 = .ok (.aload_n 0, 1) := by decide +kernel
theorem dX5_step_277 : decode cX5_step 277 = .ok (.getfield 28, 3) := by decide +kernel
theorem dX5_step_280 : decode cX5_step 280 = .ok (.iload 4, 2) := by decide +kernel
theorem dX5_step_282 : decode cX5_step 282 = .ok (.dup2, 1) := by decide +kernel
theorem dX5_step_283 : decode cX5_step 283 = .ok (.laload, 1) := by decide +kernel
theorem dX5_step_284 : decode cX5_step 284 = .ok (.aload_n 0, 1) := by decide +kernel
theorem dX5_step_285 : decode cX5_step 285 = .ok (.getfield 16, 3) := by decide +kernel
theorem dX5_step_288 : decode cX5_step 288 = .ok (.bipush 6, 2) := by decide +kernel
theorem dX5_step_290 : decode cX5_step 290 = .ok (.iload_n 1, 1) := by decide +kernel
theorem dX5_step_291 : decode cX5_step 291 = .ok (.imul, 1) := by decide +kernel
theorem dX5_step_292 : decode cX5_step 292 = .ok (.aload_n 0, 1) := by decide +kernel
theorem dX5_step_293 : decode cX5_step 293 = .ok (.getfield 41, 3) := by decide +kernel
theorem dX5_step_296 : decode cX5_step 296 = .ok (.iload 4, 2) := by decide +kernel
theorem dX5_step_298 : decode cX5_step 298 = .ok (.iaload, 1) := by decide +kernel
theorem dX5_step_299 : decode cX5_step 299 = .ok (.iadd, 1) := by decide +kernel
theorem dX5_step_300 : decode cX5_step 300 = .ok (.iaload, 1) := by decide +kernel
theorem dX5_step_301 : decode cX5_step 301 = .ok (.i2l, 1) := by decide +kernel
theorem dX5_step_302 : decode cX5_step 302 = .ok (.lmul, 1) := by decide +kernel
theorem dX5_step_303 : decode cX5_step 303 = .ok (.lastore, 1) := by decide +kernel
theorem dX5_step_304 : decode cX5_step 304 = .ok (.aload_n 0, 1) := by decide +kernel
theorem dX5_step_305 : decode cX5_step 305 = .ok (.getfield 32, 3) := by decide +kernel
theorem dX5_step_308 : decode cX5_step 308 = .ok (.bipush 31, 2) := by decide +kernel
theorem dX5_step_310 : decode cX5_step 310 = .ok (.iload 4, 2) := by decide +kernel
theorem dX5_step_312 : decode cX5_step 312 = .ok (.imul, 1) := by decide +kernel
theorem dX5_step_313 : decode cX5_step 313 = .ok (.aload_n 0, 1) := by decide +kernel
theorem dX5_step_314 : decode cX5_step 314 = .ok (.getfield 69, 3) := by decide +kernel
theorem dX5_step_317 : decode cX5_step 317 = .ok (.iadd, 1) := by decide +kernel
theorem dX5_step_318 : decode cX5_step 318 = .ok (.aload_n 0, 1) := by decide +kernel
theorem dX5_step_319 : decode cX5_step 319 = .ok (.getfield 41, 3) := by decide +kernel
theorem dX5_step_322 : decode cX5_step 322 = .ok (.iload 4, 2) := by decide +kernel
theorem dX5_step_324 : decode cX5_step 324 = .ok (.iaload, 1) := by decide +kernel
theorem dX5_step_325 : decode cX5_step 325 = .ok (.iastore, 1) := by decide +kernel
theorem dX5_step_326 : decode cX5_step 326 = .ok (.iinc 4 1, 3) := by decide +kernel
theorem dX5_step_329 : decode cX5_step 329 = .ok (.goto (-76), 3) := by decide +kernel
theorem dX5_step_332 : decode cX5_step 332 = .ok (.aload_n 0, 1) := by decide +kernel
theorem dX5_step_333 : decode cX5_step 333 = .ok (.getfield 69, 3) := by decide +kernel
theorem dX5_step_336 : decode cX5_step 336 = .ok (.ireturn, 1) := by decide +kernel
theorem dX5_total_0 : decode cX5_total 0 = .ok (.lconst 0, 1) := by decide +kernel
theorem dX5_total_1 : decode cX5_total 1 = .ok (.lstore_n 1, 1) := by decide +kernel
theorem dX5_total_2 : decode cX5_total 2 = .ok (.iconst 0, 1) := by decide +kernel
theorem dX5_total_3 : decode cX5_total 3 = .ok (.istore_n 3, 1) := by decide +kernel
theorem dX5_total_4 : decode cX5_total 4 = .ok (.iload_n 3, 1) := by decide +kernel
theorem dX5_total_5 : decode cX5_total 5 = .ok (.aload_n 0, 1) := by decide +kernel
theorem dX5_total_6 : decode cX5_total 6 = .ok (.getfield 66, 3) := by decide +kernel
theorem dX5_total_9 : decode cX5_total 9 = .ok (.if_icmp .ge 18, 3) := by decide +kernel
theorem dX5_total_12 : decode cX5_total 12 = .ok (.lload_n 1, 1) := by decide +kernel
theorem dX5_total_13 : decode cX5_total 13 = .ok (.aload_n 0, 1) := by decide +kernel
theorem dX5_total_14 : decode cX5_total 14 = .ok (.getfield 28, 3) := by decide +kernel
theorem dX5_total_17 : decode cX5_total 17 = .ok (.iload_n 3, 1) := by decide +kernel
theorem dX5_total_18 : decode cX5_total 18 = .ok (.laload, 1) := by decide +kernel
theorem dX5_total_19 : decode cX5_total 19 = .ok (.ladd, 1) := by decide +kernel
theorem dX5_total_20 : decode cX5_total 20 = .ok (.lstore_n 1, 1) := by decide +kernel
theorem dX5_total_21 : decode cX5_total 21 = .ok (.iinc 3 1, 3) := by decide +kernel
theorem dX5_total_24 : decode cX5_total 24 = .ok (.goto (-20), 3) := by decide +kernel
theorem dX5_total_27 : decode cX5_total 27 = .ok (.lload_n 1, 1) := by decide +kernel
theorem dX5_total_28 : decode cX5_total 28 = .ok (.lreturn, 1) := by decide +kernel
theorem dX5_squares_0 : decode cX5_squares 0 = .ok (.lconst 0, 1) := by decide +kernel
theorem dX5_squares_1 : decode cX5_squares 1 = .ok (.lstore_n 1, 1) := by decide +kernel
theorem dX5_squares_2 : decode cX5_squares 2 = .ok (.iconst 0, 1) := by decide +kernel
theorem dX5_squares_3 : decode cX5_squares 3 = .ok (.istore_n 3, 1) := by decide +kernel
theorem dX5_squares_4 : decode cX5_squares 4 = .ok (.iload_n 3, 1) := by decide +kernel
theorem dX5_squares_5 : decode cX5_squares 5 = .ok (.aload_n 0, 1) := by decide +kernel
theorem dX5_squares_6 : decode cX5_squares 6 = .ok (.getfield 66, 3) := by decide +kernel
theorem dX5_squares_9 : decode cX5_squares 9 = .ok (.if_icmp .ge 25, 3) := by decide +kernel
theorem dX5_squares_12 : decode cX5_squares 12 = .ok (.lload_n 1, 1) := by decide +kernel
theorem dX5_squares_13 : decode cX5_squares 13 = .ok (.aload_n 0, 1) := by decide +kernel
theorem dX5_squares_14 : decode cX5_squares 14 = .ok (.getfield 28, 3) := by decide +kernel
theorem dX5_squares_17 : decode cX5_squares 17 = .ok (.iload_n 3, 1) := by decide +kernel
theorem dX5_squares_18 : decode cX5_squares 18 = .ok (.laload, 1) := by decide +kernel
theorem dX5_squares_19 : decode cX5_squares 19 = .ok (.aload_n 0, 1) := by decide +kernel
theorem dX5_squares_20 : decode cX5_squares 20 = .ok (.getfield 28, 3) := by decide +kernel
theorem dX5_squares_23 : decode cX5_squares 23 = .ok (.iload_n 3, 1) := by decide +kernel
theorem dX5_squares_24 : decode cX5_squares 24 = .ok (.laload, 1) := by decide +kernel
theorem dX5_squares_25 : decode cX5_squares 25 = .ok (.lmul, 1) := by decide +kernel
theorem dX5_squares_26 : decode cX5_squares 26 = .ok (.ladd, 1) := by decide +kernel
theorem dX5_squares_27 : decode cX5_squares 27 = .ok (.lstore_n 1, 1) := by decide +kernel
theorem dX5_squares_28 : decode cX5_squares 28 = .ok (.iinc 3 1, 3) := by decide +kernel
theorem dX5_squares_31 : decode cX5_squares 31 = .ok (.goto (-27), 3) := by decide +kernel
theorem dX5_squares_34 : decode cX5_squares 34 = .ok (.lload_n 1, 1) := by decide +kernel
theorem dX5_squares_35 : decode cX5_squares 35 = .ok (.lreturn, 1) := by decide +kernel
theorem dX5_pick_0 : decode cX5_pick 0 = .ok (.aload_n 0, 1) := by decide +kernel
theorem dX5_pick_1 : decode cX5_pick 1 = .ok (.getfield 44, 3) := by decide +kernel
theorem dX5_pick_4 : decode cX5_pick 4 = .ok (.iload_n 1, 1) := by decide +kernel
theorem dX5_pick_5 : decode cX5_pick 5 = .ok (.dup2, 1) := by decide +kernel
theorem dX5_pick_6 : decode cX5_pick 6 = .ok (.iaload, 1) := by decide +kernel
theorem dX5_pick_7 : decode cX5_pick 7 = .ok (.iconst 1, 1) := by decide +kernel
theorem dX5_pick_8 : decode cX5_pick 8 = .ok (.iadd, 1) := by decide +kernel
theorem dX5_pick_9 : decode cX5_pick 9 = .ok (.iastore, 1) := by decide +kernel
theorem dX5_pick_10 : decode cX5_pick 10 = .ok (.return_, 1) := by decide +kernel
theorem dX5_rowAt_0 : decode cX5_rowAt 0 = .ok (.lconst 0, 1) := by decide +kernel
theorem dX5_rowAt_1 : decode cX5_rowAt 1 = .ok (.lstore_n 3, 1) := by decide +kernel
theorem dX5_rowAt_2 : decode cX5_rowAt 2 = .ok (.iconst (-1), 1) := by decide +kernel
theorem dX5_rowAt_3 : decode cX5_rowAt 3 = .ok (.istore 5, 2) := by decide +kernel
theorem dX5_rowAt_5 : decode cX5_rowAt 5 = .ok (.lload_n 3, 1) := by decide +kernel
theorem dX5_rowAt_6 : decode cX5_rowAt 6 = .ok (.lload_n 1, 1) := by decide +kernel
theorem dX5_rowAt_7 : decode cX5_rowAt 7 = .ok (.lcmp, 1) := by decide +kernel
theorem dX5_rowAt_8 : decode cX5_rowAt 8 = .ok (.ifCond .gt 25, 3) := by decide +kernel
theorem dX5_rowAt_11 : decode cX5_rowAt 11 = .ok (.iinc 5 1, 3) := by decide +kernel
theorem dX5_rowAt_14 : decode cX5_rowAt 14 = .ok (.lload_n 3, 1) := by decide +kernel
theorem dX5_rowAt_15 : decode cX5_rowAt 15 = .ok (.aload_n 0, 1) := by decide +kernel
theorem dX5_rowAt_16 : decode cX5_rowAt 16 = .ok (.getfield 66, 3) := by decide +kernel
theorem dX5_rowAt_19 : decode cX5_rowAt 19 = .ok (.i2l, 1) := by decide +kernel
theorem dX5_rowAt_20 : decode cX5_rowAt 20 = .ok (.aload_n 0, 1) := by decide +kernel
theorem dX5_rowAt_21 : decode cX5_rowAt 21 = .ok (.getfield 28, 3) := by decide +kernel
theorem dX5_rowAt_24 : decode cX5_rowAt 24 = .ok (.iload 5, 2) := by decide +kernel
theorem dX5_rowAt_26 : decode cX5_rowAt 26 = .ok (.laload, 1) := by decide +kernel
theorem dX5_rowAt_27 : decode cX5_rowAt 27 = .ok (.lmul, 1) := by decide +kernel
theorem dX5_rowAt_28 : decode cX5_rowAt 28 = .ok (.ladd, 1) := by decide +kernel
theorem dX5_rowAt_29 : decode cX5_rowAt 29 = .ok (.lstore_n 3, 1) := by decide +kernel
theorem dX5_rowAt_30 : decode cX5_rowAt 30 = .ok (.goto (-25), 3) := by decide +kernel
theorem dX5_rowAt_33 : decode cX5_rowAt 33 = .ok (.iload 5, 2) := by decide +kernel
theorem dX5_rowAt_35 : decode cX5_rowAt 35 = .ok (.ireturn, 1) := by decide +kernel
set_option maxRecDepth 20000 in
theorem ggX5_pickBy_X5_draw : GoodIn wsX5_pickBy wsX5_draw := goodIn_ca (goodIn_r _ [10, 11, 12, 13, 14, 15, 33, 34, 35, 36, 37, 38, 39, 40, 41, 42, 43, 44, 45, 46, 47, 48, 49, 50, 51, 52, 53, 54, 55] (by decide +kernel) (by decide +kernel)) (goodIn_sub (fun _ h => List.mem_cons_of_mem _ (List.mem_append_right _ h)) (by decide +kernel))
set_option maxRecDepth 20000 in
theorem gX5_pickBy_X5_draw : GoodIn wsX5_pickBy (wsV RX5 105 RX5 yX5_draw wsX5_draw) := goodIn_app (goodIn_of _ (by decide +kernel)) ggX5_pickBy_X5_draw
set_option maxRecDepth 20000 in
theorem ggX5_pickBy_X5_pick : GoodIn wsX5_pickBy wsX5_pick := goodIn_ca (goodIn_r _ [19, 20, 33, 34, 35, 36, 37, 38, 39, 40, 41, 42, 43, 44, 45, 46, 47, 48, 49, 50, 51, 52, 53, 54, 55] (by decide +kernel) (by decide +kernel)) (goodIn_sub (fun _ h => List.mem_cons_of_mem _ (List.mem_append_right _ h)) (by decide +kernel))
set_option maxRecDepth 20000 in
theorem gX5_pickBy_X5_pick : GoodIn wsX5_pickBy (wsV RX5 126 RX5 yX5_pick wsX5_pick) := goodIn_app (goodIn_of _ (by decide +kernel)) ggX5_pickBy_X5_pick
set_option maxRecDepth 20000 in
theorem ggX5_pickBy_X5_drawBy : GoodIn wsX5_pickBy wsX5_drawBy := goodIn_ca (goodIn_r _ [24, 4, 25, 26, 27, 9, 28, 6, 7, 8, 10, 11, 12, 13, 14, 15, 33, 34, 35, 36, 37, 38, 39, 40, 41, 42, 43, 44, 45, 46, 47, 48, 49, 50, 51, 52, 53, 54, 55] (by decide +kernel) (by decide +kernel)) (goodIn_sub (fun _ h => List.mem_cons_of_mem _ (List.mem_append_right _ h)) (by decide +kernel))
set_option maxRecDepth 20000 in
theorem gX5_pickBy_X5_drawBy : GoodIn wsX5_pickBy (wsV RX5 110 RX5 yX5_drawBy wsX5_drawBy) := goodIn_app (goodIn_of _ (by decide +kernel)) ggX5_pickBy_X5_drawBy
set_option maxRecDepth 20000 in
theorem ggX5_pickBy_X5_rowAt : GoodIn wsX5_pickBy wsX5_rowAt := goodIn_ca (goodIn_r _ [32, 1, 5, 33, 34, 35, 36, 37, 38, 39, 40, 41, 42, 43, 44, 45, 46, 47, 48, 49, 50, 51, 52, 53, 54, 55] (by decide +kernel) (by decide +kernel)) (goodIn_sub (fun _ h => List.mem_cons_of_mem _ (List.mem_append_right _ h)) (by decide +kernel))
set_option maxRecDepth 20000 in
theorem gX5_pickBy_X5_rowAt : GoodIn wsX5_pickBy (wsV RX5 130 RX5 yX5_rowAt wsX5_rowAt) := goodIn_app (goodIn_of _ (by decide +kernel)) ggX5_pickBy_X5_rowAt
theorem dX5_pickBy_0 : decode cX5_pickBy 0 = .ok (.iload_n 1, 1) := by decide +kernel
theorem dX5_pickBy_1 : decode cX5_pickBy 1 = .ok (.iconst 2, 1) := by decide +kernel
theorem dX5_pickBy_2 : decode cX5_pickBy 2 = .ok (.if_icmp .ne 11, 3) := by decide +kernel
theorem dX5_pickBy_5 : decode cX5_pickBy 5 = .ok (.aload_n 0, 1) := by decide +kernel
theorem dX5_pickBy_6 : decode cX5_pickBy 6 = .ok (.lload_n 2, 1) := by decide +kernel
theorem dX5_pickBy_7 : decode cX5_pickBy 7 = .ok (.invokevirtual 105, 3) := by decide +kernel
theorem dX5_pickBy_10 : decode cX5_pickBy 10 = .ok (.goto 4, 3) := by decide +kernel
theorem dX5_pickBy_13 : decode cX5_pickBy 13 = .ok (.lconst 0, 1) := by decide +kernel
theorem dX5_pickBy_14 : decode cX5_pickBy 14 = .ok (.lstore 4, 2) := by decide +kernel
theorem dX5_pickBy_16 : decode cX5_pickBy 16 = .ok (.iconst 0, 1) := by decide +kernel
theorem dX5_pickBy_17 : decode cX5_pickBy 17 = .ok (.istore 6, 2) := by decide +kernel
theorem dX5_pickBy_19 : decode cX5_pickBy 19 = .ok (.iload 6, 2) := by decide +kernel
theorem dX5_pickBy_21 : decode cX5_pickBy 21 = .ok (.aload_n 0, 1) := by decide +kernel
theorem dX5_pickBy_22 : decode cX5_pickBy 22 = .ok (.getfield 66, 3) := by decide +kernel
theorem dX5_pickBy_25 : decode cX5_pickBy 25 = .ok (.if_icmp .ge 114, 3) := by decide +kernel
theorem dX5_pickBy_28 : decode cX5_pickBy 28 = .ok (.iload 6, 2) := by decide +kernel
theorem dX5_pickBy_30 : decode cX5_pickBy 30 = .ok (.ifCond .ne 23, 3) := by decide +kernel
theorem dX5_pickBy_33 : decode cX5_pickBy 33 = .ok (.aload_n 0, 1) := by decide +kernel
theorem dX5_pickBy_34 : decode cX5_pickBy 34 = .ok (.getfield 76, 3) := by decide +kernel
theorem dX5_pickBy_37 : decode cX5_pickBy 37 = .ok (.ldc 75, 2) := by decide +kernel
theorem dX5_pickBy_39 : decode cX5_pickBy 39 = .ok (.if_icmp .eq 14, 3) := by decide +kernel
theorem dX5_pickBy_42 : decode cX5_pickBy 42 = .ok (.aload_n 0, 1) := by decide +kernel
theorem dX5_pickBy_43 : decode cX5_pickBy 43 = .ok (.aload_n 0, 1) := by decide +kernel
theorem dX5_pickBy_44 : decode cX5_pickBy 44 = .ok (.getfield 76, 3) := by decide +kernel
theorem dX5_pickBy_47 : decode cX5_pickBy 47 = .ok (.invokevirtual 126, 3) := by decide +kernel
theorem dX5_pickBy_50 : decode cX5_pickBy 50 = .ok (.goto 83, 3) := by decide +kernel
theorem dX5_pickBy_53 : decode cX5_pickBy 53 = .ok (.iload_n 1, 1) := by decide +kernel
theorem dX5_pickBy_54 : decode cX5_pickBy 54 = .ok (.ifCond .ne 50, 3) := by decide +kernel
theorem dX5_pickBy_57 : decode cX5_pickBy 57 = .ok (.iconst 0, 1) := by decide +kernel
theorem dX5_pickBy_58 : decode cX5_pickBy 58 = .ok (.istore 7, 2) := by decide +kernel
theorem dX5_pickBy_60 : decode cX5_pickBy 60 = .ok (.iload 7, 2) := by decide +kernel
theorem dX5_pickBy_62 : decode cX5_pickBy 62 = .ok (.aload_n 0, 1) := by decide +kernel
theorem dX5_pickBy_63 : decode cX5_pickBy 63 = .ok (.getfield 66, 3) := by decide +kernel
theorem dX5_pickBy_66 : decode cX5_pickBy 66 = .ok (.if_icmp .ge 23, 3) := by decide +kernel
theorem dX5_pickBy_69 : decode cX5_pickBy 69 = .ok (.aload_n 0, 1) := by decide +kernel
theorem dX5_pickBy_70 : decode cX5_pickBy 70 = .ok (.getfield 38, 3) := by decide +kernel
theorem dX5_pickBy_73 : decode cX5_pickBy 73 = .ok (.iload 7, 2) := by decide +kernel
theorem dX5_pickBy_75 : decode cX5_pickBy 75 = .ok (.aload_n 0, 1) := by decide +kernel
theorem dX5_pickBy_76 : decode cX5_pickBy 76 = .ok (.getfield 28, 3) := by decide +kernel
theorem dX5_pickBy_79 : decode cX5_pickBy 79 = .ok (.iload 7, 2) := by decide +kernel
theorem dX5_pickBy_81 : decode cX5_pickBy 81 = .ok (.laload, 1) := by decide +kernel
theorem dX5_pickBy_82 : decode cX5_pickBy 82 = .ok (.lastore, 1) := by decide +kernel
theorem dX5_pickBy_83 : decode cX5_pickBy 83 = .ok (.iinc 7 1, 3) := by decide +kernel
theorem dX5_pickBy_86 : decode cX5_pickBy 86 = .ok (.goto (-26), 3) := by decide +kernel
theorem dX5_pickBy_89 : decode cX5_pickBy 89 = .ok (.aload_n 0, 1) := by decide +kernel
theorem dX5_pickBy_90 : decode cX5_pickBy 90 = .ok (.aload_n 0, 1) := by decide +kernel
theorem dX5_pickBy_91 : decode cX5_pickBy 91 = .ok (.aload_n 0, 1) := by decide +kernel
theorem dX5_pickBy_92 : decode cX5_pickBy 92 = .ok (.getfield 66, 3) := by decide +kernel
theorem dX5_pickBy_95 : decode cX5_pickBy 95 = .ok (.invokevirtual 110, 3) := by decide +kernel
theorem dX5_pickBy_98 : decode cX5_pickBy 98 = .ok (.invokevirtual 126, 3) := by decide +kernel
theorem dX5_pickBy_101 : decode cX5_pickBy 101 = .ok (.goto 32, 3) := by decide +kernel
theorem dX5_pickBy_104 : decode cX5_pickBy 104 = .ok (.aload_n 0, 1) := by decide +kernel
theorem dX5_pickBy_105 : decode cX5_pickBy 105 = .ok (.aload_n 0, 1) := by decide +kernel
theorem dX5_pickBy_106 : decode cX5_pickBy 106 = .ok (.iload 6, 2) := by decide +kernel
theorem dX5_pickBy_108 : decode cX5_pickBy 108 = .ok (.i2l, 1) := by decide +kernel
theorem dX5_pickBy_109 : decode cX5_pickBy 109 = .ok (.lload_n 2, 1) := by decide +kernel
theorem dX5_pickBy_110 : decode cX5_pickBy 110 = .ok (.lmul, 1) := by decide +kernel
theorem dX5_pickBy_111 : decode cX5_pickBy 111 = .ok (.iload_n 1, 1) := by decide +kernel
theorem dX5_pickBy_112 : decode cX5_pickBy 112 = .ok (.iconst 1, 1) := by decide +kernel
theorem dX5_pickBy_113 : decode cX5_pickBy 113 = .ok (.if_icmp .ne 11, 3) := by decide +kernel
theorem dX5_pickBy_116 : decode cX5_pickBy 116 = .ok (.aload_n 0, 1) := by decide +kernel
theorem dX5_pickBy_117 : decode cX5_pickBy 117 = .ok (.lload_n 2, 1) := by decide +kernel
theorem dX5_pickBy_118 : decode cX5_pickBy 118 = .ok (.invokevirtual 105, 3) := by decide +kernel
theorem dX5_pickBy_121 : decode cX5_pickBy 121 = .ok (.goto 5, 3) := by decide +kernel
theorem dX5_pickBy_124 : decode cX5_pickBy 124 = .ok (.lload 4, 2) := by decide +kernel
theorem dX5_pickBy_126 : decode cX5_pickBy 126 = .ok (.ladd, 1) := by decide +kernel
theorem dX5_pickBy_127 : decode cX5_pickBy 127 = .ok (.invokevirtual 130, 3) := by decide +kernel
theorem dX5_pickBy_130 : decode cX5_pickBy 130 = .ok (.invokevirtual 126, 3) := by decide +kernel
theorem dX5_pickBy_133 : decode cX5_pickBy 133 = .ok (.iinc 6 1, 3) := by decide +kernel
theorem dX5_pickBy_136 : decode cX5_pickBy 136 = .ok (.goto (-117), 3) := by decide +kernel
theorem dX5_pickBy_139 : decode cX5_pickBy 139 = .ok (.return_, 1) := by decide +kernel
set_option maxRecDepth 20000 in
theorem ggX5_pickWhole_X5_drawBy : GoodIn wsX5_pickWhole wsX5_drawBy := goodIn_ca (goodIn_r _ [11, 4, 12, 13, 14, 10, 15, 16, 17, 18, 19, 20, 21, 22, 23, 24, 29, 30, 31, 32, 33, 34, 35, 36, 37, 38, 39, 40, 41, 42, 43, 44, 45, 46, 47, 48, 49, 50, 51] (by decide +kernel) (by decide +kernel)) (goodIn_sub (fun _ h => List.mem_cons_of_mem _ (List.mem_append_right _ h)) (by decide +kernel))
set_option maxRecDepth 20000 in
theorem gX5_pickWhole_X5_drawBy : GoodIn wsX5_pickWhole (wsV RX5 110 RX5 yX5_drawBy wsX5_drawBy) := goodIn_app (goodIn_of _ (by decide +kernel)) ggX5_pickWhole_X5_drawBy
set_option maxRecDepth 20000 in
theorem ggX5_pickWhole_X5_pick : GoodIn wsX5_pickWhole wsX5_pick := goodIn_ca (goodIn_r _ [28, 2, 29, 30, 31, 32, 33, 34, 35, 36, 37, 38, 39, 40, 41, 42, 43, 44, 45, 46, 47, 48, 49, 50, 51] (by decide +kernel) (by decide +kernel)) (goodIn_sub (fun _ h => List.mem_cons_of_mem _ (List.mem_append_right _ h)) (by decide +kernel))
set_option maxRecDepth 20000 in
theorem gX5_pickWhole_X5_pick : GoodIn wsX5_pickWhole (wsV RX5 126 RX5 yX5_pick wsX5_pick) := goodIn_app (goodIn_of _ (by decide +kernel)) ggX5_pickWhole_X5_pick
theorem dX5_pickWhole_0 : decode cX5_pickWhole 0 = .ok (.aload_n 0, 1) := by decide +kernel
theorem dX5_pickWhole_1 : decode cX5_pickWhole 1 = .ok (.getfield 66, 3) := by decide +kernel
theorem dX5_pickWhole_4 : decode cX5_pickWhole 4 = .ok (.istore_n 3, 1) := by decide +kernel
theorem dX5_pickWhole_5 : decode cX5_pickWhole 5 = .ok (.iconst 0, 1) := by decide +kernel
theorem dX5_pickWhole_6 : decode cX5_pickWhole 6 = .ok (.istore 4, 2) := by decide +kernel
theorem dX5_pickWhole_8 : decode cX5_pickWhole 8 = .ok (.iload 4, 2) := by decide +kernel
theorem dX5_pickWhole_10 : decode cX5_pickWhole 10 = .ok (.aload_n 0, 1) := by decide +kernel
theorem dX5_pickWhole_11 : decode cX5_pickWhole 11 = .ok (.getfield 66, 3) := by decide +kernel
theorem dX5_pickWhole_14 : decode cX5_pickWhole 14 = .ok (.if_icmp .ge 42, 3) := by decide +kernel
theorem dX5_pickWhole_17 : decode cX5_pickWhole 17 = .ok (.aload_n 0, 1) := by decide +kernel
theorem dX5_pickWhole_18 : decode cX5_pickWhole 18 = .ok (.getfield 44, 3) := by decide +kernel
theorem dX5_pickWhole_21 : decode cX5_pickWhole 21 = .ok (.iload 4, 2) := by decide +kernel
theorem dX5_pickWhole_23 : decode cX5_pickWhole 23 = .ok (.aload_n 0, 1) := by decide +kernel
theorem dX5_pickWhole_24 : decode cX5_pickWhole 24 = .ok (.getfield 66, 3) := by decide +kernel
theorem dX5_pickWhole_27 : decode cX5_pickWhole 27 = .ok (.i2l, 1) := by decide +kernel
theorem dX5_pickWhole_28 : decode cX5_pickWhole 28 = .ok (.aload_n 0, 1) := by decide +kernel
theorem dX5_pickWhole_29 : decode cX5_pickWhole 29 = .ok (.getfield 28, 3) := by decide +kernel
theorem dX5_pickWhole_32 : decode cX5_pickWhole 32 = .ok (.iload 4, 2) := by decide +kernel
theorem dX5_pickWhole_34 : decode cX5_pickWhole 34 = .ok (.laload, 1) := by decide +kernel
theorem dX5_pickWhole_35 : decode cX5_pickWhole 35 = .ok (.lmul, 1) := by decide +kernel
theorem dX5_pickWhole_36 : decode cX5_pickWhole 36 = .ok (.lload_n 1, 1) := by decide +kernel
theorem dX5_pickWhole_37 : decode cX5_pickWhole 37 = .ok (.ldiv, 1) := by decide +kernel
theorem dX5_pickWhole_38 : decode cX5_pickWhole 38 = .ok (.l2i, 1) := by decide +kernel
theorem dX5_pickWhole_39 : decode cX5_pickWhole 39 = .ok (.iastore, 1) := by decide +kernel
theorem dX5_pickWhole_40 : decode cX5_pickWhole 40 = .ok (.iload_n 3, 1) := by decide +kernel
theorem dX5_pickWhole_41 : decode cX5_pickWhole 41 = .ok (.aload_n 0, 1) := by decide +kernel
theorem dX5_pickWhole_42 : decode cX5_pickWhole 42 = .ok (.getfield 44, 3) := by decide +kernel
theorem dX5_pickWhole_45 : decode cX5_pickWhole 45 = .ok (.iload 4, 2) := by decide +kernel
theorem dX5_pickWhole_47 : decode cX5_pickWhole 47 = .ok (.iaload, 1) := by decide +kernel
theorem dX5_pickWhole_48 : decode cX5_pickWhole 48 = .ok (.isub, 1) := by decide +kernel
theorem dX5_pickWhole_49 : decode cX5_pickWhole 49 = .ok (.istore_n 3, 1) := by decide +kernel
theorem dX5_pickWhole_50 : decode cX5_pickWhole 50 = .ok (.iinc 4 1, 3) := by decide +kernel
theorem dX5_pickWhole_53 : decode cX5_pickWhole 53 = .ok (.goto (-45), 3) := by decide +kernel
theorem dX5_pickWhole_56 : decode cX5_pickWhole 56 = .ok (.iconst 0, 1) := by decide +kernel
theorem dX5_pickWhole_57 : decode cX5_pickWhole 57 = .ok (.istore 4, 2) := by decide +kernel
theorem dX5_pickWhole_59 : decode cX5_pickWhole 59 = .ok (.iload 4, 2) := by decide +kernel
theorem dX5_pickWhole_61 : decode cX5_pickWhole 61 = .ok (.iload_n 3, 1) := by decide +kernel
theorem dX5_pickWhole_62 : decode cX5_pickWhole 62 = .ok (.if_icmp .ge 61, 3) := by decide +kernel
theorem dX5_pickWhole_65 : decode cX5_pickWhole 65 = .ok (.iconst 0, 1) := by decide +kernel
theorem dX5_pickWhole_66 : decode cX5_pickWhole 66 = .ok (.istore 5, 2) := by decide +kernel
theorem dX5_pickWhole_68 : decode cX5_pickWhole 68 = .ok (.iload 5, 2) := by decide +kernel
theorem dX5_pickWhole_70 : decode cX5_pickWhole 70 = .ok (.aload_n 0, 1) := by decide +kernel
theorem dX5_pickWhole_71 : decode cX5_pickWhole 71 = .ok (.getfield 66, 3) := by decide +kernel
theorem dX5_pickWhole_74 : decode cX5_pickWhole 74 = .ok (.if_icmp .ge 31, 3) := by decide +kernel
theorem dX5_pickWhole_77 : decode cX5_pickWhole 77 = .ok (.aload_n 0, 1) := by decide +kernel
theorem dX5_pickWhole_78 : decode cX5_pickWhole 78 = .ok (.getfield 38, 3) := by decide +kernel
theorem dX5_pickWhole_81 : decode cX5_pickWhole 81 = .ok (.iload 5, 2) := by decide +kernel
theorem dX5_pickWhole_83 : decode cX5_pickWhole 83 = .ok (.aload_n 0, 1) := by decide +kernel
theorem dX5_pickWhole_84 : decode cX5_pickWhole 84 = .ok (.getfield 66, 3) := by decide +kernel
theorem dX5_pickWhole_87 : decode cX5_pickWhole 87 = .ok (.i2l, 1) := by decide +kernel
theorem dX5_pickWhole_88 : decode cX5_pickWhole 88 = .ok (.aload_n 0, 1) := by decide +kernel
theorem dX5_pickWhole_89 : decode cX5_pickWhole 89 = .ok (.getfield 28, 3) := by decide +kernel
theorem dX5_pickWhole_92 : decode cX5_pickWhole 92 = .ok (.iload 5, 2) := by decide +kernel
theorem dX5_pickWhole_94 : decode cX5_pickWhole 94 = .ok (.laload, 1) := by decide +kernel
theorem dX5_pickWhole_95 : decode cX5_pickWhole 95 = .ok (.lmul, 1) := by decide +kernel
theorem dX5_pickWhole_96 : decode cX5_pickWhole 96 = .ok (.lload_n 1, 1) := by decide +kernel
theorem dX5_pickWhole_97 : decode cX5_pickWhole 97 = .ok (.lrem, 1) := by decide +kernel
theorem dX5_pickWhole_98 : decode cX5_pickWhole 98 = .ok (.lastore, 1) := by decide +kernel
theorem dX5_pickWhole_99 : decode cX5_pickWhole 99 = .ok (.iinc 5 1, 3) := by decide +kernel
theorem dX5_pickWhole_102 : decode cX5_pickWhole 102 = .ok (.goto (-34), 3) := by decide +kernel
theorem dX5_pickWhole_105 : decode cX5_pickWhole 105 = .ok (.aload_n 0, 1) := by decide +kernel
theorem dX5_pickWhole_106 : decode cX5_pickWhole 106 = .ok (.aload_n 0, 1) := by decide +kernel
theorem dX5_pickWhole_107 : decode cX5_pickWhole 107 = .ok (.aload_n 0, 1) := by decide +kernel
theorem dX5_pickWhole_108 : decode cX5_pickWhole 108 = .ok (.getfield 66, 3) := by decide +kernel
theorem dX5_pickWhole_111 : decode cX5_pickWhole 111 = .ok (.invokevirtual 110, 3) := by decide +kernel
theorem dX5_pickWhole_114 : decode cX5_pickWhole 114 = .ok (.invokevirtual 126, 3) := by decide +kernel
theorem dX5_pickWhole_117 : decode cX5_pickWhole 117 = .ok (.iinc 4 1, 3) := by decide +kernel
theorem dX5_pickWhole_120 : decode cX5_pickWhole 120 = .ok (.goto (-61), 3) := by decide +kernel
theorem dX5_pickWhole_123 : decode cX5_pickWhole 123 = .ok (.aload_n 0, 1) := by decide +kernel
theorem dX5_pickWhole_124 : decode cX5_pickWhole 124 = .ok (.getfield 76, 3) := by decide +kernel
theorem dX5_pickWhole_127 : decode cX5_pickWhole 127 = .ok (.ldc 75, 2) := by decide +kernel
theorem dX5_pickWhole_129 : decode cX5_pickWhole 129 = .ok (.if_icmp .eq 63, 3) := by decide +kernel
theorem dX5_pickWhole_132 : decode cX5_pickWhole 132 = .ok (.aload_n 0, 1) := by decide +kernel
theorem dX5_pickWhole_133 : decode cX5_pickWhole 133 = .ok (.getfield 44, 3) := by decide +kernel
theorem dX5_pickWhole_136 : decode cX5_pickWhole 136 = .ok (.aload_n 0, 1) := by decide +kernel
theorem dX5_pickWhole_137 : decode cX5_pickWhole 137 = .ok (.getfield 76, 3) := by decide +kernel
theorem dX5_pickWhole_140 : decode cX5_pickWhole 140 = .ok (.iaload, 1) := by decide +kernel
theorem dX5_pickWhole_141 : decode cX5_pickWhole 141 = .ok (.ifCond .ne 51, 3) := by decide +kernel
theorem dX5_pickWhole_144 : decode cX5_pickWhole 144 = .ok (.aload_n 0, 1) := by decide +kernel
theorem dX5_pickWhole_145 : decode cX5_pickWhole 145 = .ok (.getfield 66, 3) := by decide +kernel
theorem dX5_pickWhole_148 : decode cX5_pickWhole 148 = .ok (.iconst 1, 1) := by decide +kernel
theorem dX5_pickWhole_149 : decode cX5_pickWhole 149 = .ok (.isub, 1) := by decide +kernel
theorem dX5_pickWhole_150 : decode cX5_pickWhole 150 = .ok (.istore 4, 2) := by decide +kernel
theorem dX5_pickWhole_152 : decode cX5_pickWhole 152 = .ok (.aload_n 0, 1) := by decide +kernel
theorem dX5_pickWhole_153 : decode cX5_pickWhole 153 = .ok (.getfield 44, 3) := by decide +kernel
theorem dX5_pickWhole_156 : decode cX5_pickWhole 156 = .ok (.iload 4, 2) := by decide +kernel
theorem dX5_pickWhole_158 : decode cX5_pickWhole 158 = .ok (.iaload, 1) := by decide +kernel
theorem dX5_pickWhole_159 : decode cX5_pickWhole 159 = .ok (.ifCond .ne 9, 3) := by decide +kernel
theorem dX5_pickWhole_162 : decode cX5_pickWhole 162 = .ok (.iinc 4 (-1), 3) := by decide +kernel
theorem dX5_pickWhole_165 : decode cX5_pickWhole 165 = .ok (.goto (-13), 3) := by decide +kernel
theorem dX5_pickWhole_168 : decode cX5_pickWhole 168 = .ok (.aload_n 0, 1) := by decide +kernel
theorem dX5_pickWhole_169 : decode cX5_pickWhole 169 = .ok (.getfield 44, 3) := by decide +kernel
theorem dX5_pickWhole_172 : decode cX5_pickWhole 172 = .ok (.iload 4, 2) := by decide +kernel
theorem dX5_pickWhole_174 : decode cX5_pickWhole 174 = .ok (.dup2, 1) := by decide +kernel
theorem dX5_pickWhole_175 : decode cX5_pickWhole 175 = .ok (.iaload, 1) := by decide +kernel
theorem dX5_pickWhole_176 : decode cX5_pickWhole 176 = .ok (.iconst 1, 1) := by decide +kernel
theorem dX5_pickWhole_177 : decode cX5_pickWhole 177 = .ok (.isub, 1) := by decide +kernel
theorem dX5_pickWhole_178 : decode cX5_pickWhole 178 = .ok (.iastore, 1) := by decide +kernel
theorem dX5_pickWhole_179 : decode cX5_pickWhole 179 = .ok (.aload_n 0, 1) := by decide +kernel
theorem dX5_pickWhole_180 : decode cX5_pickWhole 180 = .ok (.getfield 44, 3) := by decide +kernel
theorem dX5_pickWhole_183 : decode cX5_pickWhole 183 = .ok (.aload_n 0, 1) := by decide +kernel
theorem dX5_pickWhole_184 : decode cX5_pickWhole 184 = .ok (.getfield 76, 3) := by decide +kernel
theorem dX5_pickWhole_187 : decode cX5_pickWhole 187 = .ok (.dup2, 1) := by decide +kernel
theorem dX5_pickWhole_188 : decode cX5_pickWhole 188 = .ok (.iaload, 1) := by decide +kernel
theorem dX5_pickWhole_189 : decode cX5_pickWhole 189 = .ok (.iconst 1, 1) := by decide +kernel
theorem dX5_pickWhole_190 : decode cX5_pickWhole 190 = .ok (.iadd, 1) := by decide +kernel
theorem dX5_pickWhole_191 : decode cX5_pickWhole 191 = .ok (.iastore, 1) := by decide +kernel
theorem dX5_pickWhole_192 : decode cX5_pickWhole 192 = .ok (.return_, 1) := by decide +kernel
set_option maxRecDepth 20000 in
theorem ggX5_drawAnew_X5_total : GoodIn wsX5_drawAnew wsX5_total := goodIn_ca (goodIn_r _ [19, 5, 11, 54, 55, 56, 57, 58, 59, 60, 61, 62, 63, 64, 65, 66, 67, 68, 69, 70, 71, 72, 73, 74, 75, 76] (by decide +kernel) (by decide +kernel)) (goodIn_sub (fun _ h => List.mem_cons_of_mem _ (List.mem_append_right _ h)) (by decide +kernel))
set_option maxRecDepth 20000 in
theorem gX5_drawAnew_X5_total : GoodIn wsX5_drawAnew (wsV RX5 134 RX5 yX5_total wsX5_total) := goodIn_app (goodIn_of _ (by decide +kernel)) ggX5_drawAnew_X5_total
set_option maxRecDepth 20000 in
theorem ggX5_drawAnew_X5_pickBy : GoodIn wsX5_drawAnew wsX5_pickBy := goodIn_ca (goodIn_r _ [23, 5, 10, 8, 24, 11, 25, 26, 27, 18, 28, 29, 30, 31, 32, 33, 34, 35, 36, 37, 2, 38, 39, 40, 41, 42, 43, 44, 45, 46, 47, 48, 49, 54, 55, 56, 57, 58, 59, 60, 61, 62, 63, 64, 65, 66, 67, 68, 69, 70, 71, 72, 73, 74, 75, 76] (by decide +kernel) (by decide +kernel)) (goodIn_sub (fun _ h => List.mem_cons_of_mem _ (List.mem_append_right _ h)) (by decide +kernel))
set_option maxRecDepth 20000 in
theorem gX5_drawAnew_X5_pickBy : GoodIn wsX5_drawAnew (wsV RX5 138 RX5 yX5_pickBy wsX5_pickBy) := goodIn_app (goodIn_of _ (by decide +kernel)) ggX5_drawAnew_X5_pickBy
set_option maxRecDepth 20000 in
theorem ggX5_drawAnew_X5_pickWhole : GoodIn wsX5_drawAnew wsX5_pickWhole := goodIn_ca (goodIn_r _ [53, 5, 2, 11, 24, 10, 8, 38, 39, 40, 18, 41, 42, 43, 44, 45, 25, 26, 27, 28, 29, 30, 31, 32, 33, 34, 35, 36, 37, 54, 55, 56, 57, 58, 59, 60, 61, 62, 63, 64, 65, 66, 67, 68, 69, 70, 71, 72, 73, 74, 75, 76] (by decide +kernel) (by decide +kernel)) (goodIn_sub (fun _ h => List.mem_cons_of_mem _ (List.mem_append_right _ h)) (by decide +kernel))
set_option maxRecDepth 20000 in
theorem gX5_drawAnew_X5_pickWhole : GoodIn wsX5_drawAnew (wsV RX5 142 RX5 yX5_pickWhole wsX5_pickWhole) := goodIn_app (goodIn_of _ (by decide +kernel)) ggX5_drawAnew_X5_pickWhole
theorem dX5_drawAnew_0 : decode cX5_drawAnew 0 = .ok (.aload_n 0, 1) := by decide +kernel
theorem dX5_drawAnew_1 : decode cX5_drawAnew 1 = .ok (.invokevirtual 134, 3) := by decide +kernel
theorem dX5_drawAnew_4 : decode cX5_drawAnew 4 = .ok (.lstore_n 2, 1) := by decide +kernel
theorem dX5_drawAnew_5 : decode cX5_drawAnew 5 = .ok (.lload_n 2, 1) := by decide +kernel
theorem dX5_drawAnew_6 : decode cX5_drawAnew 6 = .ok (.lconst 0, 1) := by decide +kernel
theorem dX5_drawAnew_7 : decode cX5_drawAnew 7 = .ok (.lcmp, 1) := by decide +kernel
theorem dX5_drawAnew_8 : decode cX5_drawAnew 8 = .ok (.ifCond .ne 6, 3) := by decide +kernel
theorem dX5_drawAnew_11 : decode cX5_drawAnew 11 = .ok (.ldc 114, 2) := by decide +kernel
theorem dX5_drawAnew_13 : decode cX5_drawAnew 13 = .ok (.ireturn, 1) := by decide +kernel
theorem dX5_drawAnew_14 : decode cX5_drawAnew 14 = .ok (.iconst 0, 1) := by decide +kernel
theorem dX5_drawAnew_15 : decode cX5_drawAnew 15 = .ok (.istore 4, 2) := by decide +kernel
theorem dX5_drawAnew_17 : decode cX5_drawAnew 17 = .ok (.iload 4, 2) := by decide +kernel
theorem dX5_drawAnew_19 : decode cX5_drawAnew 19 = .ok (.bipush 16, 2) := by decide +kernel
theorem dX5_drawAnew_21 : decode cX5_drawAnew 21 = .ok (.if_icmp .ge 17, 3) := by decide +kernel
theorem dX5_drawAnew_24 : decode cX5_drawAnew 24 = .ok (.aload_n 0, 1) := by decide +kernel
theorem dX5_drawAnew_25 : decode cX5_drawAnew 25 = .ok (.getfield 44, 3) := by decide +kernel
theorem dX5_drawAnew_28 : decode cX5_drawAnew 28 = .ok (.iload 4, 2) := by decide +kernel
theorem dX5_drawAnew_30 : decode cX5_drawAnew 30 = .ok (.iconst 0, 1) := by decide +kernel
theorem dX5_drawAnew_31 : decode cX5_drawAnew 31 = .ok (.iastore, 1) := by decide +kernel
theorem dX5_drawAnew_32 : decode cX5_drawAnew 32 = .ok (.iinc 4 1, 3) := by decide +kernel
theorem dX5_drawAnew_35 : decode cX5_drawAnew 35 = .ok (.goto (-18), 3) := by decide +kernel
theorem dX5_drawAnew_38 : decode cX5_drawAnew 38 = .ok (.iload_n 1, 1) := by decide +kernel
theorem dX5_drawAnew_39 : decode cX5_drawAnew 39 = .ok (.iconst 3, 1) := by decide +kernel
theorem dX5_drawAnew_40 : decode cX5_drawAnew 40 = .ok (.if_icmp .ge 12, 3) := by decide +kernel
theorem dX5_drawAnew_43 : decode cX5_drawAnew 43 = .ok (.aload_n 0, 1) := by decide +kernel
theorem dX5_drawAnew_44 : decode cX5_drawAnew 44 = .ok (.iload_n 1, 1) := by decide +kernel
theorem dX5_drawAnew_45 : decode cX5_drawAnew 45 = .ok (.lload_n 2, 1) := by decide +kernel
theorem dX5_drawAnew_46 : decode cX5_drawAnew 46 = .ok (.invokevirtual 138, 3) := by decide +kernel
theorem dX5_drawAnew_49 : decode cX5_drawAnew 49 = .ok (.goto 8, 3) := by decide +kernel
theorem dX5_drawAnew_52 : decode cX5_drawAnew 52 = .ok (.aload_n 0, 1) := by decide +kernel
theorem dX5_drawAnew_53 : decode cX5_drawAnew 53 = .ok (.lload_n 2, 1) := by decide +kernel
theorem dX5_drawAnew_54 : decode cX5_drawAnew 54 = .ok (.invokevirtual 142, 3) := by decide +kernel
theorem dX5_drawAnew_57 : decode cX5_drawAnew 57 = .ok (.iconst 0, 1) := by decide +kernel
theorem dX5_drawAnew_58 : decode cX5_drawAnew 58 = .ok (.istore 4, 2) := by decide +kernel
theorem dX5_drawAnew_60 : decode cX5_drawAnew 60 = .ok (.iload 4, 2) := by decide +kernel
theorem dX5_drawAnew_62 : decode cX5_drawAnew 62 = .ok (.sipush 496, 3) := by decide +kernel
theorem dX5_drawAnew_65 : decode cX5_drawAnew 65 = .ok (.if_icmp .ge 23, 3) := by decide +kernel
theorem dX5_drawAnew_68 : decode cX5_drawAnew 68 = .ok (.aload_n 0, 1) := by decide +kernel
theorem dX5_drawAnew_69 : decode cX5_drawAnew 69 = .ok (.getfield 50, 3) := by decide +kernel
theorem dX5_drawAnew_72 : decode cX5_drawAnew 72 = .ok (.iload 4, 2) := by decide +kernel
theorem dX5_drawAnew_74 : decode cX5_drawAnew 74 = .ok (.aload_n 0, 1) := by decide +kernel
theorem dX5_drawAnew_75 : decode cX5_drawAnew 75 = .ok (.getfield 32, 3) := by decide +kernel
theorem dX5_drawAnew_78 : decode cX5_drawAnew 78 = .ok (.iload 4, 2) := by decide +kernel
theorem dX5_drawAnew_80 : decode cX5_drawAnew 80 = .ok (.iaload, 1) := by decide +kernel
theorem dX5_drawAnew_81 : decode cX5_drawAnew 81 = .ok (.iastore, 1) := by decide +kernel
theorem dX5_drawAnew_82 : decode cX5_drawAnew 82 = .ok (.iinc 4 1, 3) := by decide +kernel
theorem dX5_drawAnew_85 : decode cX5_drawAnew 85 = .ok (.goto (-25), 3) := by decide +kernel
theorem dX5_drawAnew_88 : decode cX5_drawAnew 88 = .ok (.iconst 0, 1) := by decide +kernel
theorem dX5_drawAnew_89 : decode cX5_drawAnew 89 = .ok (.istore 4, 2) := by decide +kernel
theorem dX5_drawAnew_91 : decode cX5_drawAnew 91 = .ok (.iload 4, 2) := by decide +kernel
theorem dX5_drawAnew_93 : decode cX5_drawAnew 93 = .ok (.aload_n 0, 1) := by decide +kernel
theorem dX5_drawAnew_94 : decode cX5_drawAnew 94 = .ok (.getfield 66, 3) := by decide +kernel
theorem dX5_drawAnew_97 : decode cX5_drawAnew 97 = .ok (.if_icmp .ge 23, 3) := by decide +kernel
theorem dX5_drawAnew_100 : decode cX5_drawAnew 100 = .ok (.aload_n 0, 1) := by decide +kernel
theorem dX5_drawAnew_101 : decode cX5_drawAnew 101 = .ok (.getfield 47, 3) := by decide +kernel
theorem dX5_drawAnew_104 : decode cX5_drawAnew 104 = .ok (.iload 4, 2) := by decide +kernel
theorem dX5_drawAnew_106 : decode cX5_drawAnew 106 = .ok (.aload_n 0, 1) := by decide +kernel
theorem dX5_drawAnew_107 : decode cX5_drawAnew 107 = .ok (.getfield 25, 3) := by decide +kernel
theorem dX5_drawAnew_110 : decode cX5_drawAnew 110 = .ok (.iload 4, 2) := by decide +kernel
theorem dX5_drawAnew_112 : decode cX5_drawAnew 112 = .ok (.iaload, 1) := by decide +kernel
theorem dX5_drawAnew_113 : decode cX5_drawAnew 113 = .ok (.iastore, 1) := by decide +kernel
theorem dX5_drawAnew_114 : decode cX5_drawAnew 114 = .ok (.iinc 4 1, 3) := by decide +kernel
theorem dX5_drawAnew_117 : decode cX5_drawAnew 117 = .ok (.goto (-26), 3) := by decide +kernel
theorem dX5_drawAnew_120 : decode cX5_drawAnew 120 = .ok (.iconst 0, 1) := by decide +kernel
theorem dX5_drawAnew_121 : decode cX5_drawAnew 121 = .ok (.istore 4, 2) := by decide +kernel
theorem dX5_drawAnew_123 : decode cX5_drawAnew 123 = .ok (.iconst 0, 1) := by decide +kernel
theorem dX5_drawAnew_124 : decode cX5_drawAnew 124 = .ok (.istore 5, 2) := by decide +kernel
theorem dX5_drawAnew_126 : decode cX5_drawAnew 126 = .ok (.ldc 75, 2) := by decide +kernel
theorem dX5_drawAnew_128 : decode cX5_drawAnew 128 = .ok (.istore 6, 2) := by decide +kernel
theorem dX5_drawAnew_130 : decode cX5_drawAnew 130 = .ok (.iconst 0, 1) := by decide +kernel
theorem dX5_drawAnew_131 : decode cX5_drawAnew 131 = .ok (.istore 7, 2) := by decide +kernel
theorem dX5_drawAnew_133 : decode cX5_drawAnew 133 = .ok (.iload 7, 2) := by decide +kernel
theorem dX5_drawAnew_135 : decode cX5_drawAnew 135 = .ok (.aload_n 0, 1) := by decide +kernel
theorem dX5_drawAnew_136 : decode cX5_drawAnew 136 = .ok (.getfield 66, 3) := by decide +kernel
theorem dX5_drawAnew_139 : decode cX5_drawAnew 139 = .ok (.if_icmp .ge 151, 3) := by decide +kernel
theorem dX5_drawAnew_142 : decode cX5_drawAnew 142 = .ok (.iload 4, 2) := by decide +kernel
theorem dX5_drawAnew_144 : decode cX5_drawAnew 144 = .ok (.aload_n 0, 1) := by decide +kernel
theorem dX5_drawAnew_145 : decode cX5_drawAnew 145 = .ok (.getfield 44, 3) := by decide +kernel
theorem dX5_drawAnew_148 : decode cX5_drawAnew 148 = .ok (.iload 7, 2) := by decide +kernel
theorem dX5_drawAnew_150 : decode cX5_drawAnew 150 = .ok (.iaload, 1) := by decide +kernel
theorem dX5_drawAnew_151 : decode cX5_drawAnew 151 = .ok (.ifCond .le 7, 3) := by decide +kernel
theorem dX5_drawAnew_154 : decode cX5_drawAnew 154 = .ok (.iconst 1, 1) := by decide +kernel
theorem dX5_drawAnew_155 : decode cX5_drawAnew 155 = .ok (.goto 4, 3) := by decide +kernel
theorem dX5_drawAnew_158 : decode cX5_drawAnew 158 = .ok (.iconst 0, 1) := by decide +kernel
theorem dX5_drawAnew_159 : decode cX5_drawAnew 159 = .ok (.iadd, 1) := by decide +kernel
theorem dX5_drawAnew_160 : decode cX5_drawAnew 160 = .ok (.istore 4, 2) := by decide +kernel
theorem dX5_drawAnew_162 : decode cX5_drawAnew 162 = .ok (.iconst 0, 1) := by decide +kernel
theorem dX5_drawAnew_163 : decode cX5_drawAnew 163 = .ok (.istore 8, 2) := by decide +kernel
theorem dX5_drawAnew_165 : decode cX5_drawAnew 165 = .ok (.iload 8, 2) := by decide +kernel
theorem dX5_drawAnew_167 : decode cX5_drawAnew 167 = .ok (.aload_n 0, 1) := by decide +kernel
theorem dX5_drawAnew_168 : decode cX5_drawAnew 168 = .ok (.getfield 44, 3) := by decide +kernel
theorem dX5_drawAnew_171 : decode cX5_drawAnew 171 = .ok (.iload 7, 2) := by decide +kernel
theorem dX5_drawAnew_173 : decode cX5_drawAnew 173 = .ok (.iaload, 1) := by decide +kernel
theorem dX5_drawAnew_174 : decode cX5_drawAnew 174 = .ok (.if_icmp .ge 110, 3) := by decide +kernel
theorem dX5_drawAnew_177 : decode cX5_drawAnew 177 = .ok (.aload_n 0, 1) := by decide +kernel
theorem dX5_drawAnew_178 : decode cX5_drawAnew 178 = .ok (.getfield 35, 3) := by decide +kernel
theorem dX5_drawAnew_181 : decode cX5_drawAnew 181 = .ok (.iload 5, 2) := by decide +kernel
theorem dX5_drawAnew_183 : decode cX5_drawAnew 183 = .ok (.iload 7, 2) := by decide +kernel
theorem dX5_drawAnew_185 : decode cX5_drawAnew 185 = .ok (.iastore, 1) := by decide +kernel
theorem dX5_drawAnew_186 : decode cX5_drawAnew 186 = .ok (.iload 7, 2) := by decide +kernel
theorem dX5_drawAnew_188 : decode cX5_drawAnew 188 = .ok (.aload_n 0, 1) := by decide +kernel
theorem dX5_drawAnew_189 : decode cX5_drawAnew 189 = .ok (.getfield 76, 3) := by decide +kernel
theorem dX5_drawAnew_192 : decode cX5_drawAnew 192 = .ok (.if_icmp .ne 15, 3) := by decide +kernel
theorem dX5_drawAnew_195 : decode cX5_drawAnew 195 = .ok (.iload 6, 2) := by decide +kernel
theorem dX5_drawAnew_197 : decode cX5_drawAnew 197 = .ok (.ldc 75, 2) := by decide +kernel
theorem dX5_drawAnew_199 : decode cX5_drawAnew 199 = .ok (.if_icmp .ne 8, 3) := by decide +kernel
theorem dX5_drawAnew_202 : decode cX5_drawAnew 202 = .ok (.iload 5, 2) := by decide +kernel
theorem dX5_drawAnew_204 : decode cX5_drawAnew 204 = .ok (.goto 5, 3) := by decide +kernel
theorem dX5_drawAnew_207 : decode cX5_drawAnew 207 = .ok (.iload 6, 2) := by decide +kernel
theorem dX5_drawAnew_209 : decode cX5_drawAnew 209 = .ok (.istore 6, 2) := by decide +kernel
theorem dX5_drawAnew_211 : decode cX5_drawAnew 211 = .ok (.aload_n 0, 1) := by decide +kernel
theorem dX5_drawAnew_212 : decode cX5_drawAnew 212 = .ok (.getfield 25, 3) := by decide +kernel
theorem dX5_drawAnew_215 : decode cX5_drawAnew 215 = .ok (.iload 5, 2) := by decide +kernel
theorem dX5_drawAnew_217 : decode cX5_drawAnew 217 = .ok (.aload_n 0, 1) := by decide +kernel
theorem dX5_drawAnew_218 : decode cX5_drawAnew 218 = .ok (.getfield 47, 3) := by decide +kernel
theorem dX5_drawAnew_221 : decode cX5_drawAnew 221 = .ok (.iload 7, 2) := by decide +kernel
theorem dX5_drawAnew_223 : decode cX5_drawAnew 223 = .ok (.iaload, 1) := by decide +kernel
theorem dX5_drawAnew_224 : decode cX5_drawAnew 224 = .ok (.iastore, 1) := by decide +kernel
theorem dX5_drawAnew_225 : decode cX5_drawAnew 225 = .ok (.aload_n 0, 1) := by decide +kernel
theorem dX5_drawAnew_226 : decode cX5_drawAnew 226 = .ok (.getfield 28, 3) := by decide +kernel
theorem dX5_drawAnew_229 : decode cX5_drawAnew 229 = .ok (.iload 5, 2) := by decide +kernel
theorem dX5_drawAnew_231 : decode cX5_drawAnew 231 = .ok (.lconst 1, 1) := by decide +kernel
theorem dX5_drawAnew_232 : decode cX5_drawAnew 232 = .ok (.lastore, 1) := by decide +kernel
theorem dX5_drawAnew_233 : decode cX5_drawAnew 233 = .ok (.iconst 0, 1) := by decide +kernel
theorem dX5_drawAnew_234 : decode cX5_drawAnew 234 = .ok (.istore 9, 2) := by decide +kernel
theorem dX5_drawAnew_236 : decode cX5_drawAnew 236 = .ok (.iload 9, 2) := by decide +kernel
theorem dX5_drawAnew_238 : decode cX5_drawAnew 238 = .ok (.bipush 31, 2) := by decide +kernel
theorem dX5_drawAnew_240 : decode cX5_drawAnew 240 = .ok (.if_icmp .ge 35, 3) := by decide +kernel
theorem dX5_drawAnew_243 : decode cX5_drawAnew 243 = .ok (.aload_n 0, 1) := by decide +kernel
theorem dX5_drawAnew_244 : decode cX5_drawAnew 244 = .ok (.getfield 32, 3) := by decide +kernel
theorem dX5_drawAnew_247 : decode cX5_drawAnew 247 = .ok (.bipush 31, 2) := by decide +kernel
theorem dX5_drawAnew_249 : decode cX5_drawAnew 249 = .ok (.iload 5, 2) := by decide +kernel
theorem dX5_drawAnew_251 : decode cX5_drawAnew 251 = .ok (.imul, 1) := by decide +kernel
theorem dX5_drawAnew_252 : decode cX5_drawAnew 252 = .ok (.iload 9, 2) := by decide +kernel
theorem dX5_drawAnew_254 : decode cX5_drawAnew 254 = .ok (.iadd, 1) := by decide +kernel
theorem dX5_drawAnew_255 : decode cX5_drawAnew 255 = .ok (.aload_n 0, 1) := by decide +kernel
theorem dX5_drawAnew_256 : decode cX5_drawAnew 256 = .ok (.getfield 50, 3) := by decide +kernel
theorem dX5_drawAnew_259 : decode cX5_drawAnew 259 = .ok (.bipush 31, 2) := by decide +kernel
theorem dX5_drawAnew_261 : decode cX5_drawAnew 261 = .ok (.iload 7, 2) := by decide +kernel
theorem dX5_drawAnew_263 : decode cX5_drawAnew 263 = .ok (.imul, 1) := by decide +kernel
theorem dX5_drawAnew_264 : decode cX5_drawAnew 264 = .ok (.iload 9, 2) := by decide +kernel
theorem dX5_drawAnew_266 : decode cX5_drawAnew 266 = .ok (.iadd, 1) := by decide +kernel
theorem dX5_drawAnew_267 : decode cX5_drawAnew 267 = .ok (.iaload, 1) := by decide +kernel
theorem dX5_drawAnew_268 : decode cX5_drawAnew 268 = .ok (.iastore, 1) := by decide +kernel
theorem dX5_drawAnew_269 : decode cX5_drawAnew 269 = .ok (.iinc 9 1, 3) := by decide +kernel
theorem dX5_drawAnew_272 : decode cX5_drawAnew 272 = .ok (.goto (-36), 3) := by decide +kernel
theorem dX5_drawAnew_275 : decode cX5_drawAnew 275 = .ok (.iinc 5 1, 3) := by decide +kernel
theorem dX5_drawAnew_278 : decode cX5_drawAnew 278 = .ok (.iinc 8 1, 3) := by decide +kernel
theorem dX5_drawAnew_281 : decode cX5_drawAnew 281 = .ok (.goto (-116), 3) := by decide +kernel
theorem dX5_drawAnew_284 : decode cX5_drawAnew 284 = .ok (.iinc 7 1, 3) := by decide +kernel
theorem dX5_drawAnew_287 : decode cX5_drawAnew 287 = .ok (.goto (-154), 3) := by decide +kernel
theorem dX5_drawAnew_290 : decode cX5_drawAnew 290 = .ok (.aload_n 0, 1) := by decide +kernel
theorem dX5_drawAnew_291 : decode cX5_drawAnew 291 = .ok (.iload 6, 2) := by decide +kernel
theorem dX5_drawAnew_293 : decode cX5_drawAnew 293 = .ok (.putfield 76, 3) := by decide +kernel
theorem dX5_drawAnew_296 : decode cX5_drawAnew 296 = .ok (.aload_n 0, 1) := by decide +kernel
theorem dX5_drawAnew_297 : decode cX5_drawAnew 297 = .ok (.iconst 1, 1) := by decide +kernel
theorem dX5_drawAnew_298 : decode cX5_drawAnew 298 = .ok (.putfield 79, 3) := by decide +kernel
theorem dX5_drawAnew_301 : decode cX5_drawAnew 301 = .ok (.aload_n 0, 1) := by decide +kernel
theorem dX5_drawAnew_302 : decode cX5_drawAnew 302 = .ok (.dup, 1) := by decide +kernel
theorem dX5_drawAnew_303 : decode cX5_drawAnew 303 = .ok (.getfield 72, 3) := by decide +kernel
theorem dX5_drawAnew_306 : decode cX5_drawAnew 306 = .ok (.iconst 1, 1) := by decide +kernel
theorem dX5_drawAnew_307 : decode cX5_drawAnew 307 = .ok (.iadd, 1) := by decide +kernel
theorem dX5_drawAnew_308 : decode cX5_drawAnew 308 = .ok (.putfield 72, 3) := by decide +kernel
theorem dX5_drawAnew_311 : decode cX5_drawAnew 311 = .ok (.aload_n 0, 1) := by decide +kernel
theorem dX5_drawAnew_312 : decode cX5_drawAnew 312 = .ok (.dup, 1) := by decide +kernel
theorem dX5_drawAnew_313 : decode cX5_drawAnew 313 = .ok (.getfield 115, 3) := by decide +kernel
theorem dX5_drawAnew_316 : decode cX5_drawAnew 316 = .ok (.lload_n 2, 1) := by decide +kernel
theorem dX5_drawAnew_317 : decode cX5_drawAnew 317 = .ok (.l2d, 1) := by decide +kernel
theorem dX5_drawAnew_318 : decode cX5_drawAnew 318 = .ok (.aload_n 0, 1) := by decide +kernel
theorem dX5_drawAnew_319 : decode cX5_drawAnew 319 = .ok (.getfield 66, 3) := by decide +kernel
theorem dX5_drawAnew_322 : decode cX5_drawAnew 322 = .ok (.i2d, 1) := by decide +kernel
theorem dX5_drawAnew_323 : decode cX5_drawAnew 323 = .ok (.ddiv, 1) := by decide +kernel
theorem dX5_drawAnew_324 : decode cX5_drawAnew 324 = .ok (.dmul, 1) := by decide +kernel
theorem dX5_drawAnew_325 : decode cX5_drawAnew 325 = .ok (.putfield 115, 3) := by decide +kernel
theorem dX5_drawAnew_328 : decode cX5_drawAnew 328 = .ok (.iload 4, 2) := by decide +kernel
theorem dX5_drawAnew_330 : decode cX5_drawAnew 330 = .ok (.ireturn, 1) := by decide +kernel
set_option maxRecDepth 20000 in
theorem ggX5_again_X5_in : GoodIn wsX5_again wsX5_in := goodIn_r _ [7] (by decide +kernel) (by decide +kernel)
set_option maxRecDepth 20000 in
theorem gX5_again_X5_in : GoodIn wsX5_again (va_wsS RX5 83 yX5_in wsX5_in) := goodIn_app (goodIn_of _ (by decide +kernel)) ggX5_again_X5_in
set_option maxRecDepth 20000 in
theorem ggX5_again_X5_drawAnew : GoodIn wsX5_again wsX5_drawAnew := goodIn_ca (goodIn_r _ [11, 12, 13, 14, 15, 1, 16, 17, 18, 19, 20, 21, 22, 23, 24, 25, 26, 27, 6, 28, 29, 30, 31, 32, 33, 34, 35, 36, 37, 38, 39, 40, 41, 42, 43, 44, 45, 46, 47, 48, 49, 50, 51, 52, 53, 54, 55, 56, 57, 58, 59, 60, 61, 62, 63, 64, 65, 66, 67, 68, 69, 70, 71, 72, 73, 74, 75, 76, 77, 78, 79, 80, 81, 82, 83, 84, 85] (by decide +kernel) (by decide +kernel)) (goodIn_sub (fun _ h => List.mem_cons_of_mem _ (List.mem_append_right _ h)) (by decide +kernel))
set_option maxRecDepth 20000 in
theorem gX5_again_X5_drawAnew : GoodIn wsX5_again (wsV RX5 146 RX5 yX5_drawAnew wsX5_drawAnew) := goodIn_app (goodIn_of _ (by decide +kernel)) ggX5_again_X5_drawAnew
theorem dX5_again_0 : decode cX5_again 0 = .ok (.aload_n 0, 1) := by decide +kernel
theorem dX5_again_1 : decode cX5_again 1 = .ok (.getfield 66, 3) := by decide +kernel
theorem dX5_again_4 : decode cX5_again 4 = .ok (.ifCond .ne 6, 3) := by decide +kernel
theorem dX5_again_7 : decode cX5_again 7 = .ok (.ldc 119, 2) := by decide +kernel
theorem dX5_again_9 : decode cX5_again 9 = .ok (.ireturn, 1) := by decide +kernel
theorem dX5_again_10 : decode cX5_again 10 = .ok (.iload_n 1, 1) := by decide +kernel
theorem dX5_again_11 : decode cX5_again 11 = .ok (.iconst 0, 1) := by decide +kernel
theorem dX5_again_12 : decode cX5_again 12 = .ok (.iconst 3, 1) := by decide +kernel
theorem dX5_again_13 : decode cX5_again 13 = .ok (.invokestatic 83, 3) := by decide +kernel
theorem dX5_again_16 : decode cX5_again 16 = .ok (.ifCond .eq 11, 3) := by decide +kernel
theorem dX5_again_19 : decode cX5_again 19 = .ok (.aload_n 0, 1) := by decide +kernel
theorem dX5_again_20 : decode cX5_again 20 = .ok (.iload_n 1, 1) := by decide +kernel
theorem dX5_again_21 : decode cX5_again 21 = .ok (.invokevirtual 146, 3) := by decide +kernel
theorem dX5_again_24 : decode cX5_again 24 = .ok (.goto 5, 3) := by decide +kernel
theorem dX5_again_27 : decode cX5_again 27 = .ok (.ldc 92, 2) := by decide +kernel
theorem dX5_again_29 : decode cX5_again 29 = .ok (.ireturn, 1) := by decide +kernel
set_option maxRecDepth 20000 in
theorem ggX5_rule_X5_in : GoodIn wsX5_rule wsX5_in := goodIn_r _ [9] (by decide +kernel) (by decide +kernel)
set_option maxRecDepth 20000 in
theorem gX5_rule_X5_in : GoodIn wsX5_rule (va_wsS RX5 83 yX5_in wsX5_in) := goodIn_app (goodIn_of _ (by decide +kernel)) ggX5_rule_X5_in
set_option maxRecDepth 20000 in
theorem ggX5_rule_X5_total : GoodIn wsX5_rule wsX5_total := goodIn_ca (goodIn_r _ [13, 1, 14, 68, 69, 70, 71, 72, 73, 74, 75, 76, 77, 78, 79, 80, 81, 82, 83, 84, 85, 86, 87, 88, 89, 90] (by decide +kernel) (by decide +kernel)) (goodIn_sub (fun _ h => List.mem_cons_of_mem _ (List.mem_append_right _ h)) (by decide +kernel))
set_option maxRecDepth 20000 in
theorem gX5_rule_X5_total : GoodIn wsX5_rule (wsV RX5 134 RX5 yX5_total wsX5_total) := goodIn_app (goodIn_of _ (by decide +kernel)) ggX5_rule_X5_total
set_option maxRecDepth 20000 in
theorem ggX5_rule_X5_squares : GoodIn wsX5_rule wsX5_squares := goodIn_ca (goodIn_r _ [18, 1, 14, 68, 69, 70, 71, 72, 73, 74, 75, 76, 77, 78, 79, 80, 81, 82, 83, 84, 85, 86, 87, 88, 89, 90] (by decide +kernel) (by decide +kernel)) (goodIn_sub (fun _ h => List.mem_cons_of_mem _ (List.mem_append_right _ h)) (by decide +kernel))
set_option maxRecDepth 20000 in
theorem gX5_rule_X5_squares : GoodIn wsX5_rule (wsV RX5 151 RX5 yX5_squares wsX5_squares) := goodIn_app (goodIn_of _ (by decide +kernel)) ggX5_rule_X5_squares
set_option maxRecDepth 20000 in
theorem ggX5_rule_X5_drawAnew : GoodIn wsX5_rule wsX5_drawAnew := goodIn_ca (goodIn_r _ [22, 4, 23, 24, 25, 1, 26, 27, 28, 29, 30, 14, 31, 32, 33, 10, 11, 12, 8, 13, 34, 35, 36, 37, 38, 39, 40, 41, 42, 43, 44, 45, 46, 47, 48, 49, 50, 51, 52, 53, 54, 55, 56, 57, 58, 59, 60, 61, 62, 63, 64, 65, 66, 67, 68, 69, 70, 71, 72, 73, 74, 75, 76, 77, 78, 79, 80, 81, 82, 83, 84, 85, 86, 87, 88, 89, 90] (by decide +kernel) (by decide +kernel)) (goodIn_sub (fun _ h => List.mem_cons_of_mem _ (List.mem_append_right _ h)) (by decide +kernel))
set_option maxRecDepth 20000 in
theorem gX5_rule_X5_drawAnew : GoodIn wsX5_rule (wsV RX5 146 RX5 yX5_drawAnew wsX5_drawAnew) := goodIn_app (goodIn_of _ (by decide +kernel)) ggX5_rule_X5_drawAnew
theorem dX5_rule_0 : decode cX5_rule 0 = .ok (.aload_n 0, 1) := by decide +kernel
theorem dX5_rule_1 : decode cX5_rule 1 = .ok (.getfield 66, 3) := by decide +kernel
theorem dX5_rule_4 : decode cX5_rule 4 = .ok (.ifCond .ne 6, 3) := by decide +kernel
theorem dX5_rule_7 : decode cX5_rule 7 = .ok (.ldc 119, 2) := by decide +kernel
theorem dX5_rule_9 : decode cX5_rule 9 = .ok (.ireturn, 1) := by decide +kernel
theorem dX5_rule_10 : decode cX5_rule 10 = .ok (.iload_n 1, 1) := by decide +kernel
theorem dX5_rule_11 : decode cX5_rule 11 = .ok (.iconst 0, 1) := by decide +kernel
theorem dX5_rule_12 : decode cX5_rule 12 = .ok (.iconst 3, 1) := by decide +kernel
theorem dX5_rule_13 : decode cX5_rule 13 = .ok (.invokestatic 83, 3) := by decide +kernel
theorem dX5_rule_16 : decode cX5_rule 16 = .ok (.ifCond .eq 13, 3) := by decide +kernel
theorem dX5_rule_19 : decode cX5_rule 19 = .ok (.iload_n 2, 1) := by decide +kernel
theorem dX5_rule_20 : decode cX5_rule 20 = .ok (.iconst 1, 1) := by decide +kernel
theorem dX5_rule_21 : decode cX5_rule 21 = .ok (.bipush 100, 2) := by decide +kernel
theorem dX5_rule_23 : decode cX5_rule 23 = .ok (.invokestatic 83, 3) := by decide +kernel
theorem dX5_rule_26 : decode cX5_rule 26 = .ok (.ifCond .ne 6, 3) := by decide +kernel
theorem dX5_rule_29 : decode cX5_rule 29 = .ok (.ldc 92, 2) := by decide +kernel
theorem dX5_rule_31 : decode cX5_rule 31 = .ok (.ireturn, 1) := by decide +kernel
theorem dX5_rule_32 : decode cX5_rule 32 = .ok (.aload_n 0, 1) := by decide +kernel
theorem dX5_rule_33 : decode cX5_rule 33 = .ok (.invokevirtual 134, 3) := by decide +kernel
theorem dX5_rule_36 : decode cX5_rule 36 = .ok (.lstore_n 3, 1) := by decide +kernel
theorem dX5_rule_37 : decode cX5_rule 37 = .ok (.lload_n 3, 1) := by decide +kernel
theorem dX5_rule_38 : decode cX5_rule 38 = .ok (.lconst 0, 1) := by decide +kernel
theorem dX5_rule_39 : decode cX5_rule 39 = .ok (.lcmp, 1) := by decide +kernel
theorem dX5_rule_40 : decode cX5_rule 40 = .ok (.ifCond .ne 6, 3) := by decide +kernel
theorem dX5_rule_43 : decode cX5_rule 43 = .ok (.ldc 114, 2) := by decide +kernel
theorem dX5_rule_45 : decode cX5_rule 45 = .ok (.ireturn, 1) := by decide +kernel
theorem dX5_rule_46 : decode cX5_rule 46 = .ok (.ldc2_w 149, 3) := by decide +kernel
theorem dX5_rule_49 : decode cX5_rule 49 = .ok (.lload_n 3, 1) := by decide +kernel
theorem dX5_rule_50 : decode cX5_rule 50 = .ok (.lmul, 1) := by decide +kernel
theorem dX5_rule_51 : decode cX5_rule 51 = .ok (.lload_n 3, 1) := by decide +kernel
theorem dX5_rule_52 : decode cX5_rule 52 = .ok (.lmul, 1) := by decide +kernel
theorem dX5_rule_53 : decode cX5_rule 53 = .ok (.iload_n 2, 1) := by decide +kernel
theorem dX5_rule_54 : decode cX5_rule 54 = .ok (.aload_n 0, 1) := by decide +kernel
theorem dX5_rule_55 : decode cX5_rule 55 = .ok (.getfield 66, 3) := by decide +kernel
theorem dX5_rule_58 : decode cX5_rule 58 = .ok (.imul, 1) := by decide +kernel
theorem dX5_rule_59 : decode cX5_rule 59 = .ok (.i2l, 1) := by decide +kernel
theorem dX5_rule_60 : decode cX5_rule 60 = .ok (.aload_n 0, 1) := by decide +kernel
theorem dX5_rule_61 : decode cX5_rule 61 = .ok (.invokevirtual 151, 3) := by decide +kernel
theorem dX5_rule_64 : decode cX5_rule 64 = .ok (.lmul, 1) := by decide +kernel
theorem dX5_rule_65 : decode cX5_rule 65 = .ok (.lcmp, 1) := by decide +kernel
theorem dX5_rule_66 : decode cX5_rule 66 = .ok (.ifCond .ge 11, 3) := by decide +kernel
theorem dX5_rule_69 : decode cX5_rule 69 = .ok (.aload_n 0, 1) := by decide +kernel
theorem dX5_rule_70 : decode cX5_rule 70 = .ok (.iload_n 1, 1) := by decide +kernel
theorem dX5_rule_71 : decode cX5_rule 71 = .ok (.invokevirtual 146, 3) := by decide +kernel
theorem dX5_rule_74 : decode cX5_rule 74 = .ok (.goto 4, 3) := by decide +kernel
theorem dX5_rule_77 : decode cX5_rule 77 = .ok (.iconst 0, 1) := by decide +kernel
theorem dX5_rule_78 : decode cX5_rule 78 = .ok (.ireturn, 1) := by decide +kernel
set_option maxRecDepth 20000 in
theorem ggX5_from_X5_isRow : GoodIn wsX5_from wsX5_isRow := goodIn_r _ [10, 1, 11, 12, 9, 13, 14, 15, 16, 17, 18, 19, 20, 21, 22, 23, 24, 25, 26, 27, 28, 29, 30, 31, 32, 33, 34, 35, 36] (by decide +kernel) (by decide +kernel)
set_option maxRecDepth 20000 in
theorem gX5_from_X5_isRow : GoodIn wsX5_from (wsV RX5 120 RX5 yX5_isRow wsX5_isRow) := goodIn_app (goodIn_of _ (by decide +kernel)) ggX5_from_X5_isRow
theorem dX5_from_0 : decode cX5_from 0 = .ok (.aload_n 0, 1) := by decide +kernel
theorem dX5_from_1 : decode cX5_from 1 = .ok (.getfield 66, 3) := by decide +kernel
theorem dX5_from_4 : decode cX5_from 4 = .ok (.ifCond .ne 6, 3) := by decide +kernel
theorem dX5_from_7 : decode cX5_from 7 = .ok (.ldc 119, 2) := by decide +kernel
theorem dX5_from_9 : decode cX5_from 9 = .ok (.ireturn, 1) := by decide +kernel
theorem dX5_from_10 : decode cX5_from 10 = .ok (.aload_n 0, 1) := by decide +kernel
theorem dX5_from_11 : decode cX5_from 11 = .ok (.getfield 79, 3) := by decide +kernel
theorem dX5_from_14 : decode cX5_from 14 = .ok (.ifCond .eq 20, 3) := by decide +kernel
theorem dX5_from_17 : decode cX5_from 17 = .ok (.aload_n 0, 1) := by decide +kernel
theorem dX5_from_18 : decode cX5_from 18 = .ok (.iload_n 1, 1) := by decide +kernel
theorem dX5_from_19 : decode cX5_from 19 = .ok (.invokevirtual 120, 3) := by decide +kernel
theorem dX5_from_22 : decode cX5_from 22 = .ok (.ifCond .eq 12, 3) := by decide +kernel
theorem dX5_from_25 : decode cX5_from 25 = .ok (.aload_n 0, 1) := by decide +kernel
theorem dX5_from_26 : decode cX5_from 26 = .ok (.getfield 35, 3) := by decide +kernel
theorem dX5_from_29 : decode cX5_from 29 = .ok (.iload_n 1, 1) := by decide +kernel
theorem dX5_from_30 : decode cX5_from 30 = .ok (.iaload, 1) := by decide +kernel
theorem dX5_from_31 : decode cX5_from 31 = .ok (.goto 5, 3) := by decide +kernel
theorem dX5_from_34 : decode cX5_from 34 = .ok (.ldc 91, 2) := by decide +kernel
theorem dX5_from_36 : decode cX5_from 36 = .ok (.ireturn, 1) := by decide +kernel
set_option maxRecDepth 20000 in
theorem ggX5_row_X5_isRow : GoodIn wsX5_row wsX5_isRow := goodIn_r _ [11, 1, 12, 13, 10, 14, 15, 16, 17, 18, 19, 20, 21, 22, 23, 24, 25, 26, 27, 28, 29, 30, 31, 32, 33, 34, 35, 36, 37] (by decide +kernel) (by decide +kernel)
set_option maxRecDepth 20000 in
theorem gX5_row_X5_isRow : GoodIn wsX5_row (wsV RX5 120 RX5 yX5_isRow wsX5_isRow) := goodIn_app (goodIn_of _ (by decide +kernel)) ggX5_row_X5_isRow
theorem dX5_row_0 : decode cX5_row 0 = .ok (.aload_n 0, 1) := by decide +kernel
theorem dX5_row_1 : decode cX5_row 1 = .ok (.getfield 66, 3) := by decide +kernel
theorem dX5_row_4 : decode cX5_row 4 = .ok (.ifCond .ne 6, 3) := by decide +kernel
theorem dX5_row_7 : decode cX5_row 7 = .ok (.ldc 119, 2) := by decide +kernel
theorem dX5_row_9 : decode cX5_row 9 = .ok (.ireturn, 1) := by decide +kernel
theorem dX5_row_10 : decode cX5_row 10 = .ok (.aload_n 0, 1) := by decide +kernel
theorem dX5_row_11 : decode cX5_row 11 = .ok (.iload_n 1, 1) := by decide +kernel
theorem dX5_row_12 : decode cX5_row 12 = .ok (.invokevirtual 120, 3) := by decide +kernel
theorem dX5_row_15 : decode cX5_row 15 = .ok (.ifCond .ne 6, 3) := by decide +kernel
theorem dX5_row_18 : decode cX5_row 18 = .ok (.ldc 91, 2) := by decide +kernel
theorem dX5_row_20 : decode cX5_row 20 = .ok (.ireturn, 1) := by decide +kernel
theorem dX5_row_21 : decode cX5_row 21 = .ok (.iload_n 2, 1) := by decide +kernel
theorem dX5_row_22 : decode cX5_row 22 = .ok (.ifCond .ne 12, 3) := by decide +kernel
theorem dX5_row_25 : decode cX5_row 25 = .ok (.aload_n 0, 1) := by decide +kernel
theorem dX5_row_26 : decode cX5_row 26 = .ok (.getfield 25, 3) := by decide +kernel
theorem dX5_row_29 : decode cX5_row 29 = .ok (.iload_n 1, 1) := by decide +kernel
theorem dX5_row_30 : decode cX5_row 30 = .ok (.iaload, 1) := by decide +kernel
theorem dX5_row_31 : decode cX5_row 31 = .ok (.goto 19, 3) := by decide +kernel
theorem dX5_row_34 : decode cX5_row 34 = .ok (.iload_n 2, 1) := by decide +kernel
theorem dX5_row_35 : decode cX5_row 35 = .ok (.iconst 1, 1) := by decide +kernel
theorem dX5_row_36 : decode cX5_row 36 = .ok (.if_icmp .ne 12, 3) := by decide +kernel
theorem dX5_row_39 : decode cX5_row 39 = .ok (.aload_n 0, 1) := by decide +kernel
theorem dX5_row_40 : decode cX5_row 40 = .ok (.getfield 69, 3) := by decide +kernel
theorem dX5_row_43 : decode cX5_row 43 = .ok (.iconst 1, 1) := by decide +kernel
theorem dX5_row_44 : decode cX5_row 44 = .ok (.iadd, 1) := by decide +kernel
theorem dX5_row_45 : decode cX5_row 45 = .ok (.goto 5, 3) := by decide +kernel
theorem dX5_row_48 : decode cX5_row 48 = .ok (.ldc 92, 2) := by decide +kernel
theorem dX5_row_50 : decode cX5_row 50 = .ok (.ireturn, 1) := by decide +kernel
set_option maxRecDepth 20000 in
theorem ggX5_weight_X5_isRow : GoodIn wsX5_weight wsX5_isRow := goodIn_r _ [9, 1, 10, 11, 8, 12, 13, 14, 15, 16, 17, 18, 19, 20, 21, 22, 23, 24, 25, 26, 27, 28, 29, 30, 31, 32, 33, 34, 35] (by decide +kernel) (by decide +kernel)
set_option maxRecDepth 20000 in
theorem gX5_weight_X5_isRow : GoodIn wsX5_weight (wsV RX5 120 RX5 yX5_isRow wsX5_isRow) := goodIn_app (goodIn_of _ (by decide +kernel)) ggX5_weight_X5_isRow
theorem dX5_weight_0 : decode cX5_weight 0 = .ok (.aload_n 0, 1) := by decide +kernel
theorem dX5_weight_1 : decode cX5_weight 1 = .ok (.getfield 66, 3) := by decide +kernel
theorem dX5_weight_4 : decode cX5_weight 4 = .ok (.ifCond .ne 9, 3) := by decide +kernel
theorem dX5_weight_7 : decode cX5_weight 7 = .ok (.ldc2_w 154, 3) := by decide +kernel
theorem dX5_weight_10 : decode cX5_weight 10 = .ok (.goto 23, 3) := by decide +kernel
theorem dX5_weight_13 : decode cX5_weight 13 = .ok (.aload_n 0, 1) := by decide +kernel
theorem dX5_weight_14 : decode cX5_weight 14 = .ok (.iload_n 1, 1) := by decide +kernel
theorem dX5_weight_15 : decode cX5_weight 15 = .ok (.invokevirtual 120, 3) := by decide +kernel
theorem dX5_weight_18 : decode cX5_weight 18 = .ok (.ifCond .ne 9, 3) := by decide +kernel
theorem dX5_weight_21 : decode cX5_weight 21 = .ok (.ldc2_w 156, 3) := by decide +kernel
theorem dX5_weight_24 : decode cX5_weight 24 = .ok (.goto 9, 3) := by decide +kernel
theorem dX5_weight_27 : decode cX5_weight 27 = .ok (.aload_n 0, 1) := by decide +kernel
theorem dX5_weight_28 : decode cX5_weight 28 = .ok (.getfield 28, 3) := by decide +kernel
theorem dX5_weight_31 : decode cX5_weight 31 = .ok (.iload_n 1, 1) := by decide +kernel
theorem dX5_weight_32 : decode cX5_weight 32 = .ok (.laload, 1) := by decide +kernel
theorem dX5_weight_33 : decode cX5_weight 33 = .ok (.lreturn, 1) := by decide +kernel
set_option maxRecDepth 20000 in
theorem ggX5_history_X5_isRow : GoodIn wsX5_history wsX5_isRow := goodIn_r _ [11, 2, 12, 13, 10, 14, 15, 16, 17, 18, 19, 20, 21, 22, 23, 24, 25, 26, 27, 28, 29, 30, 31, 32, 33, 34, 35, 36, 37] (by decide +kernel) (by decide +kernel)
set_option maxRecDepth 20000 in
theorem gX5_history_X5_isRow : GoodIn wsX5_history (wsV RX5 120 RX5 yX5_isRow wsX5_isRow) := goodIn_app (goodIn_of _ (by decide +kernel)) ggX5_history_X5_isRow
set_option maxRecDepth 20000 in
theorem ggX5_history_X5_in : GoodIn wsX5_history wsX5_in := goodIn_r _ [14] (by decide +kernel) (by decide +kernel)
set_option maxRecDepth 20000 in
theorem gX5_history_X5_in : GoodIn wsX5_history (va_wsS RX5 83 yX5_in wsX5_in) := goodIn_app (goodIn_of _ (by decide +kernel)) ggX5_history_X5_in
theorem dX5_history_0 : decode cX5_history 0 = .ok (.aload_n 0, 1) := by decide +kernel
theorem dX5_history_1 : decode cX5_history 1 = .ok (.iconst 0, 1) := by decide +kernel
theorem dX5_history_2 : decode cX5_history 2 = .ok (.putfield 56, 3) := by decide +kernel
theorem dX5_history_5 : decode cX5_history 5 = .ok (.aload_n 0, 1) := by decide +kernel
theorem dX5_history_6 : decode cX5_history 6 = .ok (.getfield 66, 3) := by decide +kernel
theorem dX5_history_9 : decode cX5_history 9 = .ok (.ifCond .ne 6, 3) := by decide +kernel
theorem dX5_history_12 : decode cX5_history 12 = .ok (.ldc 119, 2) := by decide +kernel
theorem dX5_history_14 : decode cX5_history 14 = .ok (.ireturn, 1) := by decide +kernel
theorem dX5_history_15 : decode cX5_history 15 = .ok (.aload_n 0, 1) := by decide +kernel
theorem dX5_history_16 : decode cX5_history 16 = .ok (.iload_n 1, 1) := by decide +kernel
theorem dX5_history_17 : decode cX5_history 17 = .ok (.invokevirtual 120, 3) := by decide +kernel
theorem dX5_history_20 : decode cX5_history 20 = .ok (.ifCond .ne 6, 3) := by decide +kernel
theorem dX5_history_23 : decode cX5_history 23 = .ok (.ldc 91, 2) := by decide +kernel
theorem dX5_history_25 : decode cX5_history 25 = .ok (.ireturn, 1) := by decide +kernel
theorem dX5_history_26 : decode cX5_history 26 = .ok (.aload_n 0, 1) := by decide +kernel
theorem dX5_history_27 : decode cX5_history 27 = .ok (.iload_n 2, 1) := by decide +kernel
theorem dX5_history_28 : decode cX5_history 28 = .ok (.iconst 0, 1) := by decide +kernel
theorem dX5_history_29 : decode cX5_history 29 = .ok (.aload_n 0, 1) := by decide +kernel
theorem dX5_history_30 : decode cX5_history 30 = .ok (.getfield 69, 3) := by decide +kernel
theorem dX5_history_33 : decode cX5_history 33 = .ok (.invokestatic 83, 3) := by decide +kernel
theorem dX5_history_36 : decode cX5_history 36 = .ok (.ifCond .eq 7, 3) := by decide +kernel
theorem dX5_history_39 : decode cX5_history 39 = .ok (.iconst 0, 1) := by decide +kernel
theorem dX5_history_40 : decode cX5_history 40 = .ok (.goto 4, 3) := by decide +kernel
theorem dX5_history_43 : decode cX5_history 43 = .ok (.iconst 1, 1) := by decide +kernel
theorem dX5_history_44 : decode cX5_history 44 = .ok (.putfield 56, 3) := by decide +kernel
theorem dX5_history_47 : decode cX5_history 47 = .ok (.aload_n 0, 1) := by decide +kernel
theorem dX5_history_48 : decode cX5_history 48 = .ok (.getfield 56, 3) := by decide +kernel
theorem dX5_history_51 : decode cX5_history 51 = .ok (.ifCond .le 7, 3) := by decide +kernel
theorem dX5_history_54 : decode cX5_history 54 = .ok (.iconst 0, 1) := by decide +kernel
theorem dX5_history_55 : decode cX5_history 55 = .ok (.goto 14, 3) := by decide +kernel
theorem dX5_history_58 : decode cX5_history 58 = .ok (.aload_n 0, 1) := by decide +kernel
theorem dX5_history_59 : decode cX5_history 59 = .ok (.getfield 32, 3) := by decide +kernel
theorem dX5_history_62 : decode cX5_history 62 = .ok (.bipush 31, 2) := by decide +kernel
theorem dX5_history_64 : decode cX5_history 64 = .ok (.iload_n 1, 1) := by decide +kernel
theorem dX5_history_65 : decode cX5_history 65 = .ok (.imul, 1) := by decide +kernel
theorem dX5_history_66 : decode cX5_history 66 = .ok (.iload_n 2, 1) := by decide +kernel
theorem dX5_history_67 : decode cX5_history 67 = .ok (.iadd, 1) := by decide +kernel
theorem dX5_history_68 : decode cX5_history 68 = .ok (.iaload, 1) := by decide +kernel
theorem dX5_history_69 : decode cX5_history 69 = .ok (.ireturn, 1) := by decide +kernel
set_option maxRecDepth 20000 in
theorem ggX5_write_X5_isRow : GoodIn wsX5_write wsX5_isRow := goodIn_r _ [11, 1, 12, 13, 10, 14, 18, 19, 20, 21, 22, 23, 24, 25, 26, 27, 28, 29, 30, 31, 32, 33, 34, 35, 36, 37, 38, 39, 40] (by decide +kernel) (by decide +kernel)
set_option maxRecDepth 20000 in
theorem gX5_write_X5_isRow : GoodIn wsX5_write (wsV RX5 120 RX5 yX5_isRow wsX5_isRow) := goodIn_app (goodIn_of _ (by decide +kernel)) ggX5_write_X5_isRow
set_option maxRecDepth 20000 in
theorem ggX5_write_X5_isState : GoodIn wsX5_write wsX5_isState := goodIn_r _ [17, 12, 13, 10, 14] (by decide +kernel) (by decide +kernel)
set_option maxRecDepth 20000 in
theorem gX5_write_X5_isState : GoodIn wsX5_write (va_wsS RX5 87 yX5_isState wsX5_isState) := goodIn_app (goodIn_of _ (by decide +kernel)) ggX5_write_X5_isState
set_option maxRecDepth 20000 in
theorem ggX5_write_X5_in : GoodIn wsX5_write wsX5_in := goodIn_r _ [14] (by decide +kernel) (by decide +kernel)
set_option maxRecDepth 20000 in
theorem gX5_write_X5_in : GoodIn wsX5_write (va_wsS RX5 83 yX5_in wsX5_in) := goodIn_app (goodIn_of _ (by decide +kernel)) ggX5_write_X5_in
theorem dX5_write_0 : decode cX5_write 0 = .ok (.aload_n 0, 1) := by decide +kernel
theorem dX5_write_1 : decode cX5_write 1 = .ok (.getfield 66, 3) := by decide +kernel
theorem dX5_write_4 : decode cX5_write 4 = .ok (.ifCond .ne 6, 3) := by decide +kernel
theorem dX5_write_7 : decode cX5_write 7 = .ok (.ldc 119, 2) := by decide +kernel
theorem dX5_write_9 : decode cX5_write 9 = .ok (.ireturn, 1) := by decide +kernel
theorem dX5_write_10 : decode cX5_write 10 = .ok (.aload_n 0, 1) := by decide +kernel
theorem dX5_write_11 : decode cX5_write 11 = .ok (.iload_n 1, 1) := by decide +kernel
theorem dX5_write_12 : decode cX5_write 12 = .ok (.invokevirtual 120, 3) := by decide +kernel
theorem dX5_write_15 : decode cX5_write 15 = .ok (.ifCond .eq 10, 3) := by decide +kernel
theorem dX5_write_18 : decode cX5_write 18 = .ok (.iload_n 3, 1) := by decide +kernel
theorem dX5_write_19 : decode cX5_write 19 = .ok (.invokestatic 87, 3) := by decide +kernel
theorem dX5_write_22 : decode cX5_write 22 = .ok (.ifCond .ne 6, 3) := by decide +kernel
theorem dX5_write_25 : decode cX5_write 25 = .ok (.ldc 91, 2) := by decide +kernel
theorem dX5_write_27 : decode cX5_write 27 = .ok (.ireturn, 1) := by decide +kernel
theorem dX5_write_28 : decode cX5_write 28 = .ok (.iload_n 2, 1) := by decide +kernel
theorem dX5_write_29 : decode cX5_write 29 = .ok (.iconst 0, 1) := by decide +kernel
theorem dX5_write_30 : decode cX5_write 30 = .ok (.aload_n 0, 1) := by decide +kernel
theorem dX5_write_31 : decode cX5_write 31 = .ok (.getfield 69, 3) := by decide +kernel
theorem dX5_write_34 : decode cX5_write 34 = .ok (.invokestatic 83, 3) := by decide +kernel
theorem dX5_write_37 : decode cX5_write 37 = .ok (.ifCond .ne 6, 3) := by decide +kernel
theorem dX5_write_40 : decode cX5_write 40 = .ok (.ldc 92, 2) := by decide +kernel
theorem dX5_write_42 : decode cX5_write 42 = .ok (.ireturn, 1) := by decide +kernel
theorem dX5_write_43 : decode cX5_write 43 = .ok (.aload_n 0, 1) := by decide +kernel
theorem dX5_write_44 : decode cX5_write 44 = .ok (.getfield 32, 3) := by decide +kernel
theorem dX5_write_47 : decode cX5_write 47 = .ok (.bipush 31, 2) := by decide +kernel
theorem dX5_write_49 : decode cX5_write 49 = .ok (.iload_n 1, 1) := by decide +kernel
theorem dX5_write_50 : decode cX5_write 50 = .ok (.imul, 1) := by decide +kernel
theorem dX5_write_51 : decode cX5_write 51 = .ok (.iload_n 2, 1) := by decide +kernel
theorem dX5_write_52 : decode cX5_write 52 = .ok (.iadd, 1) := by decide +kernel
theorem dX5_write_53 : decode cX5_write 53 = .ok (.iload_n 3, 1) := by decide +kernel
theorem dX5_write_54 : decode cX5_write 54 = .ok (.iastore, 1) := by decide +kernel
theorem dX5_write_55 : decode cX5_write 55 = .ok (.iconst 1, 1) := by decide +kernel
theorem dX5_write_56 : decode cX5_write 56 = .ok (.ireturn, 1) := by decide +kernel
set_option maxRecDepth 20000 in
theorem ggX5_told_X5_total : GoodIn wsX5_told wsX5_total := goodIn_ca (goodIn_r _ [8, 1, 9, 14, 15, 16, 17, 18, 19, 20, 21, 22, 23, 24, 25, 26, 27, 28, 29, 30, 31, 32, 33, 34, 35, 36] (by decide +kernel) (by decide +kernel)) (goodIn_sub (fun _ h => List.mem_cons_of_mem _ (List.mem_append_right _ h)) (by decide +kernel))
set_option maxRecDepth 20000 in
theorem gX5_told_X5_total : GoodIn wsX5_told (wsV RX5 134 RX5 yX5_total wsX5_total) := goodIn_app (goodIn_of _ (by decide +kernel)) ggX5_told_X5_total
set_option maxRecDepth 20000 in
theorem ggX5_told_X5_squares : GoodIn wsX5_told wsX5_squares := goodIn_ca (goodIn_r _ [13, 1, 9, 14, 15, 16, 17, 18, 19, 20, 21, 22, 23, 24, 25, 26, 27, 28, 29, 30, 31, 32, 33, 34, 35, 36] (by decide +kernel) (by decide +kernel)) (goodIn_sub (fun _ h => List.mem_cons_of_mem _ (List.mem_append_right _ h)) (by decide +kernel))
set_option maxRecDepth 20000 in
theorem gX5_told_X5_squares : GoodIn wsX5_told (wsV RX5 151 RX5 yX5_squares wsX5_squares) := goodIn_app (goodIn_of _ (by decide +kernel)) ggX5_told_X5_squares
theorem dX5_told_0 : decode cX5_told 0 = .ok (.aload_n 0, 1) := by decide +kernel
theorem dX5_told_1 : decode cX5_told 1 = .ok (.getfield 66, 3) := by decide +kernel
theorem dX5_told_4 : decode cX5_told 4 = .ok (.ifCond .ne 7, 3) := by decide +kernel
theorem dX5_told_7 : decode cX5_told 7 = .ok (.ldc2_w 154, 3) := by decide +kernel
theorem dX5_told_10 : decode cX5_told 10 = .ok (.lreturn, 1) := by decide +kernel
theorem dX5_told_11 : decode cX5_told 11 = .ok (.aload_n 0, 1) := by decide +kernel
theorem dX5_told_12 : decode cX5_told 12 = .ok (.invokevirtual 134, 3) := by decide +kernel
theorem dX5_told_15 : decode cX5_told 15 = .ok (.lstore_n 2, 1) := by decide +kernel
theorem dX5_told_16 : decode cX5_told 16 = .ok (.aload_n 0, 1) := by decide +kernel
theorem dX5_told_17 : decode cX5_told 17 = .ok (.invokevirtual 151, 3) := by decide +kernel
theorem dX5_told_20 : decode cX5_told 20 = .ok (.lstore 4, 2) := by decide +kernel
theorem dX5_told_22 : decode cX5_told 22 = .ok (.iload_n 1, 1) := by decide +kernel
theorem dX5_told_23 : decode cX5_told 23 = .ok (.ifCond .ne 7, 3) := by decide +kernel
theorem dX5_told_26 : decode cX5_told 26 = .ok (.lload_n 2, 1) := by decide +kernel
theorem dX5_told_27 : decode cX5_told 27 = .ok (.goto 41, 3) := by decide +kernel
theorem dX5_told_30 : decode cX5_told 30 = .ok (.iload_n 1, 1) := by decide +kernel
theorem dX5_told_31 : decode cX5_told 31 = .ok (.iconst 1, 1) := by decide +kernel
theorem dX5_told_32 : decode cX5_told 32 = .ok (.if_icmp .ne 8, 3) := by decide +kernel
theorem dX5_told_35 : decode cX5_told 35 = .ok (.lload 4, 2) := by decide +kernel
theorem dX5_told_37 : decode cX5_told 37 = .ok (.goto 31, 3) := by decide +kernel
theorem dX5_told_40 : decode cX5_told 40 = .ok (.iload_n 1, 1) := by decide +kernel
theorem dX5_told_41 : decode cX5_told 41 = .ok (.iconst 2, 1) := by decide +kernel
theorem dX5_told_42 : decode cX5_told 42 = .ok (.if_icmp .ne 23, 3) := by decide +kernel
theorem dX5_told_45 : decode cX5_told 45 = .ok (.lload 4, 2) := by decide +kernel
theorem dX5_told_47 : decode cX5_told 47 = .ok (.lconst 0, 1) := by decide +kernel
theorem dX5_told_48 : decode cX5_told 48 = .ok (.lcmp, 1) := by decide +kernel
theorem dX5_told_49 : decode cX5_told 49 = .ok (.ifCond .ne 7, 3) := by decide +kernel
theorem dX5_told_52 : decode cX5_told 52 = .ok (.lconst 0, 1) := by decide +kernel
theorem dX5_told_53 : decode cX5_told 53 = .ok (.goto 15, 3) := by decide +kernel
theorem dX5_told_56 : decode cX5_told 56 = .ok (.lload_n 2, 1) := by decide +kernel
theorem dX5_told_57 : decode cX5_told 57 = .ok (.lload_n 2, 1) := by decide +kernel
theorem dX5_told_58 : decode cX5_told 58 = .ok (.lmul, 1) := by decide +kernel
theorem dX5_told_59 : decode cX5_told 59 = .ok (.lload 4, 2) := by decide +kernel
theorem dX5_told_61 : decode cX5_told 61 = .ok (.ldiv, 1) := by decide +kernel
theorem dX5_told_62 : decode cX5_told 62 = .ok (.goto 6, 3) := by decide +kernel
theorem dX5_told_65 : decode cX5_told 65 = .ok (.ldc2_w 158, 3) := by decide +kernel
theorem dX5_told_68 : decode cX5_told 68 = .ok (.lreturn, 1) := by decide +kernel
set_option maxRecDepth 20000 in
theorem ggX5_evidence_X5_total : GoodIn wsX5_evidence wsX5_total := goodIn_ca (goodIn_r _ [7, 1, 8, 9, 10, 11, 12, 13, 14, 15, 16, 17, 18, 19, 20, 21, 22, 23, 24, 25, 26, 27, 28, 29, 30, 31] (by decide +kernel) (by decide +kernel)) (goodIn_sub (fun _ h => List.mem_cons_of_mem _ (List.mem_append_right _ h)) (by decide +kernel))
set_option maxRecDepth 20000 in
theorem gX5_evidence_X5_total : GoodIn wsX5_evidence (wsV RX5 134 RX5 yX5_total wsX5_total) := goodIn_app (goodIn_of _ (by decide +kernel)) ggX5_evidence_X5_total
theorem dX5_evidence_0 : decode cX5_evidence 0 = .ok (.aload_n 0, 1) := by decide +kernel
theorem dX5_evidence_1 : decode cX5_evidence 1 = .ok (.getfield 66, 3) := by decide +kernel
theorem dX5_evidence_4 : decode cX5_evidence 4 = .ok (.ifCond .ne 7, 3) := by decide +kernel
theorem dX5_evidence_7 : decode cX5_evidence 7 = .ok (.dconst 0, 1) := by decide +kernel
theorem dX5_evidence_8 : decode cX5_evidence 8 = .ok (.goto 19, 3) := by decide +kernel
theorem dX5_evidence_11 : decode cX5_evidence 11 = .ok (.aload_n 0, 1) := by decide +kernel
theorem dX5_evidence_12 : decode cX5_evidence 12 = .ok (.getfield 115, 3) := by decide +kernel
theorem dX5_evidence_15 : decode cX5_evidence 15 = .ok (.aload_n 0, 1) := by decide +kernel
theorem dX5_evidence_16 : decode cX5_evidence 16 = .ok (.invokevirtual 134, 3) := by decide +kernel
theorem dX5_evidence_19 : decode cX5_evidence 19 = .ok (.l2d, 1) := by decide +kernel
theorem dX5_evidence_20 : decode cX5_evidence 20 = .ok (.aload_n 0, 1) := by decide +kernel
theorem dX5_evidence_21 : decode cX5_evidence 21 = .ok (.getfield 66, 3) := by decide +kernel
theorem dX5_evidence_24 : decode cX5_evidence 24 = .ok (.i2d, 1) := by decide +kernel
theorem dX5_evidence_25 : decode cX5_evidence 25 = .ok (.ddiv, 1) := by decide +kernel
theorem dX5_evidence_26 : decode cX5_evidence 26 = .ok (.dmul, 1) := by decide +kernel
theorem dX5_evidence_27 : decode cX5_evidence 27 = .ok (.dreturn, 1) := by decide +kernel
theorem dX5_count_0 : decode cX5_count 0 = .ok (.iload_n 1, 1) := by decide +kernel
theorem dX5_count_1 : decode cX5_count 1 = .ok (.tableswitch 60 0 4 #[35, 40, 45, 50, 55], 35) := by decide +kernel
theorem dX5_count_36 : decode cX5_count 36 = .ok (.aload_n 0, 1) := by decide +kernel
theorem dX5_count_37 : decode cX5_count 37 = .ok (.getfield 66, 3) := by decide +kernel
theorem dX5_count_40 : decode cX5_count 40 = .ok (.ireturn, 1) := by decide +kernel
theorem dX5_count_41 : decode cX5_count 41 = .ok (.aload_n 0, 1) := by decide +kernel
theorem dX5_count_42 : decode cX5_count 42 = .ok (.getfield 69, 3) := by decide +kernel
theorem dX5_count_45 : decode cX5_count 45 = .ok (.ireturn, 1) := by decide +kernel
theorem dX5_count_46 : decode cX5_count 46 = .ok (.aload_n 0, 1) := by decide +kernel
theorem dX5_count_47 : decode cX5_count 47 = .ok (.getfield 72, 3) := by decide +kernel
theorem dX5_count_50 : decode cX5_count 50 = .ok (.ireturn, 1) := by decide +kernel
theorem dX5_count_51 : decode cX5_count 51 = .ok (.aload_n 0, 1) := by decide +kernel
theorem dX5_count_52 : decode cX5_count 52 = .ok (.getfield 60, 3) := by decide +kernel
theorem dX5_count_55 : decode cX5_count 55 = .ok (.ireturn, 1) := by decide +kernel
theorem dX5_count_56 : decode cX5_count 56 = .ok (.aload_n 0, 1) := by decide +kernel
theorem dX5_count_57 : decode cX5_count 57 = .ok (.getfield 76, 3) := by decide +kernel
theorem dX5_count_60 : decode cX5_count 60 = .ok (.ireturn, 1) := by decide +kernel
theorem dX5_count_61 : decode cX5_count 61 = .ok (.ldc 92, 2) := by decide +kernel
theorem dX5_count_63 : decode cX5_count 63 = .ok (.ireturn, 1) := by decide +kernel
set_option maxRecDepth 20000 in
theorem ggX5_clear_X5_beginAll : GoodIn wsX5_clear wsX5_beginAll := goodIn_ca (goodIn_r _ [6, 7, 8, 9, 10, 11, 12, 13, 14, 5, 15, 1, 16, 17, 18, 19, 20, 21, 22, 23, 24, 25, 26, 27, 28, 29, 30, 31, 32, 33, 34, 35, 36, 37, 38, 39, 40, 41, 42, 43] (by decide +kernel) (by decide +kernel)) (goodIn_sub (fun _ h => List.mem_cons_of_mem _ (List.mem_append_right _ h)) (by decide +kernel))
set_option maxRecDepth 20000 in
theorem gX5_clear_X5_beginAll : GoodIn wsX5_clear (wsV RX5 53 RX5 yX5_beginAll wsX5_beginAll) := goodIn_app (goodIn_of _ (by decide +kernel)) ggX5_clear_X5_beginAll
theorem dX5_clear_0 : decode cX5_clear 0 = .ok (.aload_n 0, 1) := by decide +kernel
theorem dX5_clear_1 : decode cX5_clear 1 = .ok (.getfield 66, 3) := by decide +kernel
theorem dX5_clear_4 : decode cX5_clear 4 = .ok (.istore_n 1, 1) := by decide +kernel
theorem dX5_clear_5 : decode cX5_clear 5 = .ok (.aload_n 0, 1) := by decide +kernel
theorem dX5_clear_6 : decode cX5_clear 6 = .ok (.invokevirtual 53, 3) := by decide +kernel
theorem dX5_clear_9 : decode cX5_clear 9 = .ok (.iload_n 1, 1) := by decide +kernel
theorem dX5_clear_10 : decode cX5_clear 10 = .ok (.ireturn, 1) := by decide +kernel
