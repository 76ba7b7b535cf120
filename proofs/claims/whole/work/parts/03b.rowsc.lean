theorem dX0_init_0 : decode cX0_init 0 = .ok (.aload_n 0, 1) := by decide +kernel
theorem dX0_init_1 : decode cX0_init 1 = .ok (.invokespecial 3, 3) := by decide +kernel
theorem dX0_init_4 : decode cX0_init 4 = .ok (.aload_n 0, 1) := by decide +kernel
theorem dX0_init_5 : decode cX0_init 5 = .ok (.bipush 64, 2) := by decide +kernel
theorem dX0_init_7 : decode cX0_init 7 = .ok (.newarray .int, 2) := by decide +kernel
theorem dX0_init_9 : decode cX0_init 9 = .ok (.putfield 9, 3) := by decide +kernel
theorem dX0_init_12 : decode cX0_init 12 = .ok (.return_, 1) := by decide +kernel
theorem dX0_setAsAtFirst_0 : decode cX0_setAsAtFirst 0 = .ok (.aload_n 0, 1) := by decide +kernel
theorem dX0_setAsAtFirst_1 : decode cX0_setAsAtFirst 1 = .ok (.iconst 0, 1) := by decide +kernel
theorem dX0_setAsAtFirst_2 : decode cX0_setAsAtFirst 2 = .ok (.putfield 15, 3) := by decide +kernel
theorem dX0_setAsAtFirst_5 : decode cX0_setAsAtFirst 5 = .ok (.aload_n 0, 1) := by decide +kernel
theorem dX0_setAsAtFirst_6 : decode cX0_setAsAtFirst 6 = .ok (.iconst 0, 1) := by decide +kernel
theorem dX0_setAsAtFirst_7 : decode cX0_setAsAtFirst 7 = .ok (.putfield 19, 3) := by decide +kernel
theorem dX0_setAsAtFirst_10 : decode cX0_setAsAtFirst 10 = .ok (.aload_n 0, 1) := by decide +kernel
theorem dX0_setAsAtFirst_11 : decode cX0_setAsAtFirst 11 = .ok (.lconst 0, 1) := by decide +kernel
theorem dX0_setAsAtFirst_12 : decode cX0_setAsAtFirst 12 = .ok (.putfield 22, 3) := by decide +kernel
theorem dX0_setAsAtFirst_15 : decode cX0_setAsAtFirst 15 = .ok (.return_, 1) := by decide +kernel
theorem dX0_addForced_0 : decode cX0_addForced 0 = .ok (.aload_n 0, 1) := by decide +kernel
theorem dX0_addForced_1 : decode cX0_addForced 1 = .ok (.getfield 9, 3) := by decide +kernel
theorem dX0_addForced_4 : decode cX0_addForced 4 = .ok (.aload_n 0, 1) := by decide +kernel
theorem dX0_addForced_5 : decode cX0_addForced 5 = .ok (.getfield 15, 3) := by decide +kernel
theorem dX0_addForced_8 : decode cX0_addForced 8 = .ok (.aload_n 0, 1) := by decide +kernel
theorem dX0_addForced_9 : decode cX0_addForced 9 = .ok (.getfield 19, 3) := by decide +kernel
theorem dX0_addForced_12 : decode cX0_addForced 12 = .ok (.iadd, 1) := by decide +kernel
theorem dX0_addForced_13 : decode cX0_addForced 13 = .ok (.bipush 64, 2) := by decide +kernel
theorem dX0_addForced_15 : decode cX0_addForced 15 = .ok (.irem, 1) := by decide +kernel
theorem dX0_addForced_16 : decode cX0_addForced 16 = .ok (.iload_n 1, 1) := by decide +kernel
theorem dX0_addForced_17 : decode cX0_addForced 17 = .ok (.iastore, 1) := by decide +kernel
theorem dX0_addForced_18 : decode cX0_addForced 18 = .ok (.aload_n 0, 1) := by decide +kernel
theorem dX0_addForced_19 : decode cX0_addForced 19 = .ok (.dup, 1) := by decide +kernel
theorem dX0_addForced_20 : decode cX0_addForced 20 = .ok (.getfield 19, 3) := by decide +kernel
theorem dX0_addForced_23 : decode cX0_addForced 23 = .ok (.iconst 1, 1) := by decide +kernel
theorem dX0_addForced_24 : decode cX0_addForced 24 = .ok (.iadd, 1) := by decide +kernel
theorem dX0_addForced_25 : decode cX0_addForced 25 = .ok (.putfield 19, 3) := by decide +kernel
theorem dX0_addForced_28 : decode cX0_addForced 28 = .ok (.return_, 1) := by decide +kernel
set_option maxRecDepth 20000 in
theorem ggX0_below_X0_next : GoodIn wsX0_below wsX0_next := goodIn_ca (goodIn_r _ [5, 6, 7, 8, 9, 10, 11, 12, 13, 14, 15] (by decide +kernel) (by decide +kernel)) (goodIn_sub (fun _ h => List.mem_cons_of_mem _ (List.mem_append_right _ h)) (by decide +kernel))
set_option maxRecDepth 20000 in
theorem gX0_below_X0_next : GoodIn wsX0_below (wsV RX0 26 RX0 yX0_next wsX0_next) := goodIn_app (goodIn_of _ (by decide +kernel)) ggX0_below_X0_next
theorem dX0_below_0 : decode cX0_below 0 = .ok (.lload_n 1, 1) := by decide +kernel
theorem dX0_below_1 : decode cX0_below 1 = .ok (.lconst 0, 1) := by decide +kernel
theorem dX0_below_2 : decode cX0_below 2 = .ok (.lcmp, 1) := by decide +kernel
theorem dX0_below_3 : decode cX0_below 3 = .ok (.ifCond .le 12, 3) := by decide +kernel
theorem dX0_below_6 : decode cX0_below 6 = .ok (.aload_n 0, 1) := by decide +kernel
theorem dX0_below_7 : decode cX0_below 7 = .ok (.invokevirtual 26, 3) := by decide +kernel
theorem dX0_below_10 : decode cX0_below 10 = .ok (.lload_n 1, 1) := by decide +kernel
theorem dX0_below_11 : decode cX0_below 11 = .ok (.lrem, 1) := by decide +kernel
theorem dX0_below_12 : decode cX0_below 12 = .ok (.goto 4, 3) := by decide +kernel
theorem dX0_below_15 : decode cX0_below 15 = .ok (.lconst 0, 1) := by decide +kernel
theorem dX0_below_16 : decode cX0_below 16 = .ok (.lreturn, 1) := by decide +kernel
theorem dX0_next_0 : decode cX0_next 0 = .ok (.aload_n 0, 1) := by decide +kernel
theorem dX0_next_1 : decode cX0_next 1 = .ok (.getfield 19, 3) := by decide +kernel
theorem dX0_next_4 : decode cX0_next 4 = .ok (.ifCond .le 39, 3) := by decide +kernel
theorem dX0_next_7 : decode cX0_next 7 = .ok (.aload_n 0, 1) := by decide +kernel
theorem dX0_next_8 : decode cX0_next 8 = .ok (.getfield 9, 3) := by decide +kernel
theorem dX0_next_11 : decode cX0_next 11 = .ok (.aload_n 0, 1) := by decide +kernel
theorem dX0_next_12 : decode cX0_next 12 = .ok (.getfield 15, 3) := by decide +kernel
theorem dX0_next_15 : decode cX0_next 15 = .ok (.iaload, 1) := by decide +kernel
theorem dX0_next_16 : decode cX0_next 16 = .ok (.istore_n 1, 1) := by decide +kernel
theorem dX0_next_17 : decode cX0_next 17 = .ok (.aload_n 0, 1) := by decide +kernel
theorem dX0_next_18 : decode cX0_next 18 = .ok (.aload_n 0, 1) := by decide +kernel
theorem dX0_next_19 : decode cX0_next 19 = .ok (.getfield 15, 3) := by decide +kernel
theorem dX0_next_22 : decode cX0_next 22 = .ok (.iconst 1, 1) := by decide +kernel
theorem dX0_next_23 : decode cX0_next 23 = .ok (.iadd, 1) := by decide +kernel
theorem dX0_next_24 : decode cX0_next 24 = .ok (.bipush 64, 2) := by decide +kernel
theorem dX0_next_26 : decode cX0_next 26 = .ok (.irem, 1) := by decide +kernel
theorem dX0_next_27 : decode cX0_next 27 = .ok (.putfield 15, 3) := by decide +kernel
theorem dX0_next_30 : decode cX0_next 30 = .ok (.aload_n 0, 1) := by decide +kernel
theorem dX0_next_31 : decode cX0_next 31 = .ok (.dup, 1) := by decide +kernel
theorem dX0_next_32 : decode cX0_next 32 = .ok (.getfield 19, 3) := by decide +kernel
theorem dX0_next_35 : decode cX0_next 35 = .ok (.iconst 1, 1) := by decide +kernel
theorem dX0_next_36 : decode cX0_next 36 = .ok (.isub, 1) := by decide +kernel
theorem dX0_next_37 : decode cX0_next 37 = .ok (.putfield 19, 3) := by decide +kernel
theorem dX0_next_40 : decode cX0_next 40 = .ok (.iload_n 1, 1) := by decide +kernel
theorem dX0_next_41 : decode cX0_next 41 = .ok (.i2l, 1) := by decide +kernel
theorem dX0_next_42 : decode cX0_next 42 = .ok (.lreturn, 1) := by decide +kernel
theorem dX0_next_43 : decode cX0_next 43 = .ok (.aload_n 0, 1) := by decide +kernel
theorem dX0_next_44 : decode cX0_next 44 = .ok (.aload_n 0, 1) := by decide +kernel
theorem dX0_next_45 : decode cX0_next 45 = .ok (.getfield 22, 3) := by decide +kernel
theorem dX0_next_48 : decode cX0_next 48 = .ok (.ldc2_w 30, 3) := by decide +kernel
theorem dX0_next_51 : decode cX0_next 51 = .ok (.lmul, 1) := by decide +kernel
theorem dX0_next_52 : decode cX0_next 52 = .ok (.ldc2_w 32, 3) := by decide +kernel
theorem dX0_next_55 : decode cX0_next 55 = .ok (.ladd, 1) := by decide +kernel
theorem dX0_next_56 : decode cX0_next 56 = .ok (.putfield 22, 3) := by decide +kernel
theorem dX0_next_59 : decode cX0_next 59 = .ok (.aload_n 0, 1) := by decide +kernel
theorem dX0_next_60 : decode cX0_next 60 = .ok (.getfield 22, 3) := by decide +kernel
theorem dX0_next_63 : decode cX0_next 63 = .ok (.bipush 33, 2) := by decide +kernel
theorem dX0_next_65 : decode cX0_next 65 = .ok (.lushr, 1) := by decide +kernel
theorem dX0_next_66 : decode cX0_next 66 = .ok (.lreturn, 1) := by decide +kernel
set_option maxRecDepth 20000 in
theorem ggX0_byWeights_X4_sumOf : GoodIn wsX0_byWeights wsX4_sumOf := goodIn_ca (goodIn_r _ [4] (by decide +kernel) (by decide +kernel)) (goodIn_sub (fun _ h => List.mem_cons_of_mem _ (List.mem_append_right _ h)) (by decide +kernel))
set_option maxRecDepth 20000 in
theorem gX0_byWeights_X4_sumOf_n34 : GoodIn wsX0_byWeights (wsX4_sumOf) := ggX0_byWeights_X4_sumOf
set_option maxRecDepth 20000 in
theorem ggX0_byWeights_X0_below : GoodIn wsX0_byWeights wsX0_below := goodIn_ca (goodIn_r _ [9, 10, 11, 12, 8, 13, 14, 15, 16, 17, 18, 19, 23, 24, 25, 26] (by decide +kernel) (by decide +kernel)) (goodIn_sub (fun _ h => List.mem_cons_of_mem _ (List.mem_append_right _ h)) (by decide +kernel))
set_option maxRecDepth 20000 in
theorem gX0_byWeights_X0_below : GoodIn wsX0_byWeights (wsV RX0 39 RX0 yX0_below wsX0_below) := goodIn_app (goodIn_of _ (by decide +kernel)) ggX0_byWeights_X0_below
set_option maxRecDepth 20000 in
theorem ggX0_byWeights_X4_firstAbove : GoodIn wsX0_byWeights wsX4_firstAbove := goodIn_ca (goodIn_r _ [21, 22] (by decide +kernel) (by decide +kernel)) (goodIn_sub (fun _ h => List.mem_cons_of_mem _ (List.mem_append_right _ h)) (by decide +kernel))
set_option maxRecDepth 20000 in
theorem gX0_byWeights_X4_firstAbove_n43 : GoodIn wsX0_byWeights (wsX4_firstAbove) := ggX0_byWeights_X4_firstAbove
theorem dX0_byWeights_0 : decode cX0_byWeights 0 = .ok (.aload_n 1, 1) := by decide +kernel
theorem dX0_byWeights_1 : decode cX0_byWeights 1 = .ok (.iload_n 2, 1) := by decide +kernel
theorem dX0_byWeights_2 : decode cX0_byWeights 2 = .ok (.invokestatic 34, 3) := by decide +kernel
theorem dX0_byWeights_5 : decode cX0_byWeights 5 = .ok (.lstore_n 3, 1) := by decide +kernel
theorem dX0_byWeights_6 : decode cX0_byWeights 6 = .ok (.lload_n 3, 1) := by decide +kernel
theorem dX0_byWeights_7 : decode cX0_byWeights 7 = .ok (.lconst 0, 1) := by decide +kernel
theorem dX0_byWeights_8 : decode cX0_byWeights 8 = .ok (.lcmp, 1) := by decide +kernel
theorem dX0_byWeights_9 : decode cX0_byWeights 9 = .ok (.ifCond .gt 6, 3) := by decide +kernel
theorem dX0_byWeights_12 : decode cX0_byWeights 12 = .ok (.ldc 38, 2) := by decide +kernel
theorem dX0_byWeights_14 : decode cX0_byWeights 14 = .ok (.ireturn, 1) := by decide +kernel
theorem dX0_byWeights_15 : decode cX0_byWeights 15 = .ok (.aload_n 0, 1) := by decide +kernel
theorem dX0_byWeights_16 : decode cX0_byWeights 16 = .ok (.lload_n 3, 1) := by decide +kernel
theorem dX0_byWeights_17 : decode cX0_byWeights 17 = .ok (.invokevirtual 39, 3) := by decide +kernel
theorem dX0_byWeights_20 : decode cX0_byWeights 20 = .ok (.lconst 1, 1) := by decide +kernel
theorem dX0_byWeights_21 : decode cX0_byWeights 21 = .ok (.aload_n 1, 1) := by decide +kernel
theorem dX0_byWeights_22 : decode cX0_byWeights 22 = .ok (.iload_n 2, 1) := by decide +kernel
theorem dX0_byWeights_23 : decode cX0_byWeights 23 = .ok (.invokestatic 43, 3) := by decide +kernel
theorem dX0_byWeights_26 : decode cX0_byWeights 26 = .ok (.ireturn, 1) := by decide +kernel
theorem dX1_init_0 : decode cX1_init 0 = .ok (.aload_n 0, 1) := by decide +kernel
theorem dX1_init_1 : decode cX1_init 1 = .ok (.invokespecial 3, 3) := by decide +kernel
theorem dX1_init_4 : decode cX1_init 4 = .ok (.aload_n 0, 1) := by decide +kernel
theorem dX1_init_5 : decode cX1_init 5 = .ok (.bipush 16, 2) := by decide +kernel
theorem dX1_init_7 : decode cX1_init 7 = .ok (.newarray .int, 2) := by decide +kernel
theorem dX1_init_9 : decode cX1_init 9 = .ok (.putfield 9, 3) := by decide +kernel
theorem dX1_init_12 : decode cX1_init 12 = .ok (.aload_n 0, 1) := by decide +kernel
theorem dX1_init_13 : decode cX1_init 13 = .ok (.bipush 16, 2) := by decide +kernel
theorem dX1_init_15 : decode cX1_init 15 = .ok (.newarray .int, 2) := by decide +kernel
theorem dX1_init_17 : decode cX1_init 17 = .ok (.putfield 15, 3) := by decide +kernel
theorem dX1_init_20 : decode cX1_init 20 = .ok (.return_, 1) := by decide +kernel
set_option maxRecDepth 20000 in
theorem ggX1_pick_J7_fill_53178 : GoodIn wsX1_pick wsJ7_fill_53178 := goodIn_r _ [7] (by decide +kernel) (by decide +kernel)
set_option maxRecDepth 20000 in
theorem gX1_pick_J7_fill_53178 : GoodIn wsX1_pick (va_wsS RX1 18 yJ7_fill_53178 wsJ7_fill_53178) := goodIn_app (goodIn_of _ (by decide +kernel)) ggX1_pick_J7_fill_53178
set_option maxRecDepth 20000 in
theorem ggX1_pick_X1_pickEachByWeights : GoodIn wsX1_pick wsX1_pickEachByWeights := goodIn_ca (goodIn_r _ [12, 3, 13, 14, 15, 16, 11, 17, 2, 18, 19, 20, 21, 22, 1, 23, 24, 25, 26, 27, 28, 29, 30, 31, 32, 33, 34, 35, 36, 37, 38, 39, 40, 41, 42, 43, 44, 45, 46, 47, 48, 76, 77, 78, 79, 80, 81, 82, 83, 84, 85, 86, 87, 88, 74, 75, 89, 90, 91, 92] (by decide +kernel) (by decide +kernel)) (goodIn_sub (fun _ h => List.mem_cons_of_mem _ (List.mem_append_right _ h)) (by decide +kernel))
set_option maxRecDepth 20000 in
theorem gX1_pick_X1_pickEachByWeights : GoodIn wsX1_pick (wsV RX1 24 RX1 yX1_pickEachByWeights wsX1_pickEachByWeights) := goodIn_app (goodIn_of _ (by decide +kernel)) ggX1_pick_X1_pickEachByWeights
set_option maxRecDepth 20000 in
theorem ggX1_pick_X1_pickWithDrawsOfTheirOwn : GoodIn wsX1_pick wsX1_pickWithDrawsOfTheirOwn := goodIn_ca (goodIn_r _ [52, 3, 13, 53, 54, 55, 56, 57, 58, 59, 29, 30, 31, 14, 15, 16, 11, 17, 2, 18, 19, 20, 21, 22, 1, 60, 33, 34, 26, 35, 36, 37, 38, 39, 40, 41, 42, 43, 44, 45, 46, 47, 48, 76, 77, 78, 79, 80, 81, 82, 83, 84, 85, 86, 87, 88, 74, 75, 89, 90, 91, 92] (by decide +kernel) (by decide +kernel)) (goodIn_sub (fun _ h => List.mem_cons_of_mem _ (List.mem_append_right _ h)) (by decide +kernel))
set_option maxRecDepth 20000 in
theorem gX1_pick_X1_pickWithDrawsOfTheirOwn : GoodIn wsX1_pick (wsV RX1 28 RX1 yX1_pickWithDrawsOfTheirOwn wsX1_pickWithDrawsOfTheirOwn) := goodIn_app (goodIn_of _ (by decide +kernel)) ggX1_pick_X1_pickWithDrawsOfTheirOwn
set_option maxRecDepth 20000 in
theorem ggX1_pick_X1_pickWithOneDraw : GoodIn wsX1_pick wsX1_pickWithOneDraw := goodIn_ca (goodIn_r _ [64, 3, 13, 53, 54, 55, 56, 57, 58, 59, 29, 30, 31, 60, 33, 34, 26, 35, 36, 37, 38, 39, 40, 41, 42, 43, 44, 45, 14, 15, 16, 11, 17, 2, 18, 19, 20, 21, 22, 1, 46, 47, 48, 76, 77, 78, 79, 80, 81, 82, 83, 84, 85, 86, 87, 88, 89, 90, 91, 92, 74, 75] (by decide +kernel) (by decide +kernel)) (goodIn_sub (fun _ h => List.mem_cons_of_mem _ (List.mem_append_right _ h)) (by decide +kernel))
set_option maxRecDepth 20000 in
theorem gX1_pick_X1_pickWithOneDraw : GoodIn wsX1_pick (wsV RX1 31 RX1 yX1_pickWithOneDraw wsX1_pickWithOneDraw) := goodIn_app (goodIn_of _ (by decide +kernel)) ggX1_pick_X1_pickWithOneDraw
set_option maxRecDepth 20000 in
theorem ggX1_pick_X1_pickByPartsAndRests : GoodIn wsX1_pick wsX1_pickByPartsAndRests := goodIn_ca (goodIn_r _ [68, 3, 13, 1, 69, 53, 54, 55, 56, 57, 58, 59, 29, 30, 31, 23, 24, 25, 26, 27, 28, 32, 33, 34, 35, 36, 37, 38, 39, 40, 41, 42, 43, 44, 45, 46, 47, 48, 19, 20, 21, 11, 22, 76, 77, 78, 79, 80, 81, 82, 83, 84, 85, 86, 87, 88, 74, 75, 89, 90, 91, 92] (by decide +kernel) (by decide +kernel)) (goodIn_sub (fun _ h => List.mem_cons_of_mem _ (List.mem_append_right _ h)) (by decide +kernel))
set_option maxRecDepth 20000 in
theorem gX1_pick_X1_pickByPartsAndRests : GoodIn wsX1_pick (wsV RX1 34 RX1 yX1_pickByPartsAndRests wsX1_pickByPartsAndRests) := goodIn_app (goodIn_of _ (by decide +kernel)) ggX1_pick_X1_pickByPartsAndRests
set_option maxRecDepth 20000 in
theorem ggX1_pick_X1_putIn : GoodIn wsX1_pick wsX1_putIn := goodIn_ca (goodIn_r _ [73, 1, 74, 75] (by decide +kernel) (by decide +kernel)) (goodIn_sub (fun _ h => List.mem_cons_of_mem _ (List.mem_append_right _ h)) (by decide +kernel))
set_option maxRecDepth 20000 in
theorem gX1_pick_X1_putIn : GoodIn wsX1_pick (wsV RX1 46 RX1 yX1_putIn wsX1_putIn) := goodIn_app (goodIn_of _ (by decide +kernel)) ggX1_pick_X1_putIn
theorem dX1_pick_0 : decode cX1_pick 0 = .ok (.aload_n 0, 1) := by decide +kernel
theorem dX1_pick_1 : decode cX1_pick 1 = .ok (.getfield 9, 3) := by decide +kernel
theorem dX1_pick_4 : decode cX1_pick 4 = .ok (.iconst 0, 1) := by decide +kernel
theorem dX1_pick_5 : decode cX1_pick 5 = .ok (.invokestatic 18, 3) := by decide +kernel
theorem dX1_pick_8 : decode cX1_pick 8 = .ok (.iload_n 1, 1) := by decide +kernel
theorem dX1_pick_9 : decode cX1_pick 9 = .ok (.tableswitch 54 0 2 #[27, 36, 45], 27) := by decide +kernel
theorem dX1_pick_36 : decode cX1_pick 36 = .ok (.aload_n 0, 1) := by decide +kernel
theorem dX1_pick_37 : decode cX1_pick 37 = .ok (.aload_n 2, 1) := by decide +kernel
theorem dX1_pick_38 : decode cX1_pick 38 = .ok (.aload_n 3, 1) := by decide +kernel
theorem dX1_pick_39 : decode cX1_pick 39 = .ok (.invokevirtual 24, 3) := by decide +kernel
theorem dX1_pick_42 : decode cX1_pick 42 = .ok (.goto 39, 3) := by decide +kernel
theorem dX1_pick_45 : decode cX1_pick 45 = .ok (.aload_n 0, 1) := by decide +kernel
theorem dX1_pick_46 : decode cX1_pick 46 = .ok (.aload_n 2, 1) := by decide +kernel
theorem dX1_pick_47 : decode cX1_pick 47 = .ok (.aload_n 3, 1) := by decide +kernel
theorem dX1_pick_48 : decode cX1_pick 48 = .ok (.invokevirtual 28, 3) := by decide +kernel
theorem dX1_pick_51 : decode cX1_pick 51 = .ok (.goto 30, 3) := by decide +kernel
theorem dX1_pick_54 : decode cX1_pick 54 = .ok (.aload_n 0, 1) := by decide +kernel
theorem dX1_pick_55 : decode cX1_pick 55 = .ok (.aload_n 2, 1) := by decide +kernel
theorem dX1_pick_56 : decode cX1_pick 56 = .ok (.aload_n 3, 1) := by decide +kernel
theorem dX1_pick_57 : decode cX1_pick 57 = .ok (.invokevirtual 31, 3) := by decide +kernel
theorem dX1_pick_60 : decode cX1_pick 60 = .ok (.goto 21, 3) := by decide +kernel
theorem dX1_pick_63 : decode cX1_pick 63 = .ok (.aload_n 0, 1) := by decide +kernel
theorem dX1_pick_64 : decode cX1_pick 64 = .ok (.aload_n 2, 1) := by decide +kernel
theorem dX1_pick_65 : decode cX1_pick 65 = .ok (.aload_n 3, 1) := by decide +kernel
theorem dX1_pick_66 : decode cX1_pick 66 = .ok (.invokevirtual 34, 3) := by decide +kernel
theorem dX1_pick_69 : decode cX1_pick 69 = .ok (.aload_n 0, 1) := by decide +kernel
theorem dX1_pick_70 : decode cX1_pick 70 = .ok (.aload_n 2, 1) := by decide +kernel
theorem dX1_pick_71 : decode cX1_pick 71 = .ok (.getfield 37, 3) := by decide +kernel
theorem dX1_pick_74 : decode cX1_pick 74 = .ok (.aload_n 2, 1) := by decide +kernel
theorem dX1_pick_75 : decode cX1_pick 75 = .ok (.getfield 43, 3) := by decide +kernel
theorem dX1_pick_78 : decode cX1_pick 78 = .ok (.invokevirtual 46, 3) := by decide +kernel
theorem dX1_pick_81 : decode cX1_pick 81 = .ok (.return_, 1) := by decide +kernel
theorem dX1_putInOrder_0 : decode cX1_putInOrder 0 = .ok (.iconst 0, 1) := by decide +kernel
theorem dX1_putInOrder_1 : decode cX1_putInOrder 1 = .ok (.istore_n 3, 1) := by decide +kernel
theorem dX1_putInOrder_2 : decode cX1_putInOrder 2 = .ok (.iconst 0, 1) := by decide +kernel
theorem dX1_putInOrder_3 : decode cX1_putInOrder 3 = .ok (.istore 4, 2) := by decide +kernel
theorem dX1_putInOrder_5 : decode cX1_putInOrder 5 = .ok (.iload 4, 2) := by decide +kernel
theorem dX1_putInOrder_7 : decode cX1_putInOrder 7 = .ok (.iload_n 2, 1) := by decide +kernel
theorem dX1_putInOrder_8 : decode cX1_putInOrder 8 = .ok (.if_icmp .ge 43, 3) := by decide +kernel
theorem dX1_putInOrder_11 : decode cX1_putInOrder 11 = .ok (.iconst 0, 1) := by decide +kernel
theorem dX1_putInOrder_12 : decode cX1_putInOrder 12 = .ok (.istore 5, 2) := by decide +kernel
theorem dX1_putInOrder_14 : decode cX1_putInOrder 14 = .ok (.iload 5, 2) := by decide +kernel
theorem dX1_putInOrder_16 : decode cX1_putInOrder 16 = .ok (.aload_n 0, 1) := by decide +kernel
theorem dX1_putInOrder_17 : decode cX1_putInOrder 17 = .ok (.getfield 9, 3) := by decide +kernel
theorem dX1_putInOrder_20 : decode cX1_putInOrder 20 = .ok (.iload 4, 2) := by decide +kernel
theorem dX1_putInOrder_22 : decode cX1_putInOrder 22 = .ok (.iaload, 1) := by decide +kernel
theorem dX1_putInOrder_23 : decode cX1_putInOrder 23 = .ok (.if_icmp .ge 22, 3) := by decide +kernel
theorem dX1_putInOrder_26 : decode cX1_putInOrder 26 = .ok (.iload_n 3, 1) := by decide +kernel
theorem dX1_putInOrder_27 : decode cX1_putInOrder 27 = .ok (.iload_n 2, 1) := by decide +kernel
theorem dX1_putInOrder_28 : decode cX1_putInOrder 28 = .ok (.if_icmp .ge 17, 3) := by decide +kernel
theorem dX1_putInOrder_31 : decode cX1_putInOrder 31 = .ok (.aload_n 1, 1) := by decide +kernel
theorem dX1_putInOrder_32 : decode cX1_putInOrder 32 = .ok (.iload_n 3, 1) := by decide +kernel
theorem dX1_putInOrder_33 : decode cX1_putInOrder 33 = .ok (.iload 4, 2) := by decide +kernel
theorem dX1_putInOrder_35 : decode cX1_putInOrder 35 = .ok (.iastore, 1) := by decide +kernel
theorem dX1_putInOrder_36 : decode cX1_putInOrder 36 = .ok (.iinc 3 1, 3) := by decide +kernel
theorem dX1_putInOrder_39 : decode cX1_putInOrder 39 = .ok (.iinc 5 1, 3) := by decide +kernel
theorem dX1_putInOrder_42 : decode cX1_putInOrder 42 = .ok (.goto (-28), 3) := by decide +kernel
theorem dX1_putInOrder_45 : decode cX1_putInOrder 45 = .ok (.iinc 4 1, 3) := by decide +kernel
theorem dX1_putInOrder_48 : decode cX1_putInOrder 48 = .ok (.goto (-43), 3) := by decide +kernel
theorem dX1_putInOrder_51 : decode cX1_putInOrder 51 = .ok (.return_, 1) := by decide +kernel
theorem dX1_unlike_0 : decode cX1_unlike 0 = .ok (.iconst 0, 1) := by decide +kernel
theorem dX1_unlike_1 : decode cX1_unlike 1 = .ok (.istore_n 2, 1) := by decide +kernel
theorem dX1_unlike_2 : decode cX1_unlike 2 = .ok (.iconst 0, 1) := by decide +kernel
theorem dX1_unlike_3 : decode cX1_unlike 3 = .ok (.istore_n 3, 1) := by decide +kernel
theorem dX1_unlike_4 : decode cX1_unlike 4 = .ok (.iload_n 3, 1) := by decide +kernel
theorem dX1_unlike_5 : decode cX1_unlike 5 = .ok (.iload_n 1, 1) := by decide +kernel
theorem dX1_unlike_6 : decode cX1_unlike 6 = .ok (.if_icmp .ge 21, 3) := by decide +kernel
theorem dX1_unlike_9 : decode cX1_unlike 9 = .ok (.aload_n 0, 1) := by decide +kernel
theorem dX1_unlike_10 : decode cX1_unlike 10 = .ok (.getfield 9, 3) := by decide +kernel
theorem dX1_unlike_13 : decode cX1_unlike 13 = .ok (.iload_n 3, 1) := by decide +kernel
theorem dX1_unlike_14 : decode cX1_unlike 14 = .ok (.iaload, 1) := by decide +kernel
theorem dX1_unlike_15 : decode cX1_unlike 15 = .ok (.ifCond .le 6, 3) := by decide +kernel
theorem dX1_unlike_18 : decode cX1_unlike 18 = .ok (.iinc 2 1, 3) := by decide +kernel
theorem dX1_unlike_21 : decode cX1_unlike 21 = .ok (.iinc 3 1, 3) := by decide +kernel
theorem dX1_unlike_24 : decode cX1_unlike 24 = .ok (.goto (-20), 3) := by decide +kernel
theorem dX1_unlike_27 : decode cX1_unlike 27 = .ok (.iload_n 2, 1) := by decide +kernel
theorem dX1_unlike_28 : decode cX1_unlike 28 = .ok (.ireturn, 1) := by decide +kernel
theorem dX1_add_0 : decode cX1_add 0 = .ok (.iload_n 1, 1) := by decide +kernel
theorem dX1_add_1 : decode cX1_add 1 = .ok (.ifCond .lt 19, 3) := by decide +kernel
theorem dX1_add_4 : decode cX1_add 4 = .ok (.iload_n 1, 1) := by decide +kernel
theorem dX1_add_5 : decode cX1_add 5 = .ok (.bipush 16, 2) := by decide +kernel
theorem dX1_add_7 : decode cX1_add 7 = .ok (.if_icmp .ge 13, 3) := by decide +kernel
theorem dX1_add_10 : decode cX1_add 10 = .ok (.aload_n 0, 1) := by decide +kernel
theorem dX1_add_11 : decode cX1_add 11 = .ok (.getfield 9, 3) := by decide +kernel
theorem dX1_add_14 : decode cX1_add 14 = .ok (.iload_n 1, 1) := by decide +kernel
theorem dX1_add_15 : decode cX1_add 15 = .ok (.dup2, 1) := by decide +kernel
theorem dX1_add_16 : decode cX1_add 16 = .ok (.iaload, 1) := by decide +kernel
theorem dX1_add_17 : decode cX1_add 17 = .ok (.iconst 1, 1) := by decide +kernel
theorem dX1_add_18 : decode cX1_add 18 = .ok (.iadd, 1) := by decide +kernel
theorem dX1_add_19 : decode cX1_add 19 = .ok (.iastore, 1) := by decide +kernel
theorem dX1_add_20 : decode cX1_add 20 = .ok (.return_, 1) := by decide +kernel
set_option maxRecDepth 20000 in
theorem ggX1_firstPickBehindKept_X1_add : GoodIn wsX1_firstPickBehindKept wsX1_add := goodIn_ca (goodIn_r _ [7, 8, 22, 23] (by decide +kernel) (by decide +kernel)) (goodIn_sub (fun _ h => List.mem_cons_of_mem _ (List.mem_append_right _ h)) (by decide +kernel))
set_option maxRecDepth 20000 in
theorem gX1_firstPickBehindKept_X1_add : GoodIn wsX1_firstPickBehindKept (wsV RX1 51 RX1 yX1_add wsX1_add) := goodIn_app (goodIn_of _ (by decide +kernel)) ggX1_firstPickBehindKept_X1_add
theorem dX1_firstPickBehindKept_0 : decode cX1_firstPickBehindKept 0 = .ok (.aload_n 1, 1) := by decide +kernel
theorem dX1_firstPickBehindKept_1 : decode cX1_firstPickBehindKept 1 = .ok (.getfield 37, 3) := by decide +kernel
theorem dX1_firstPickBehindKept_4 : decode cX1_firstPickBehindKept 4 = .ok (.ldc 50, 2) := by decide +kernel
theorem dX1_firstPickBehindKept_6 : decode cX1_firstPickBehindKept 6 = .ok (.if_icmp .ne 5, 3) := by decide +kernel
theorem dX1_firstPickBehindKept_9 : decode cX1_firstPickBehindKept 9 = .ok (.iconst 0, 1) := by decide +kernel
theorem dX1_firstPickBehindKept_10 : decode cX1_firstPickBehindKept 10 = .ok (.ireturn, 1) := by decide +kernel
theorem dX1_firstPickBehindKept_11 : decode cX1_firstPickBehindKept 11 = .ok (.aload_n 0, 1) := by decide +kernel
theorem dX1_firstPickBehindKept_12 : decode cX1_firstPickBehindKept 12 = .ok (.aload_n 1, 1) := by decide +kernel
theorem dX1_firstPickBehindKept_13 : decode cX1_firstPickBehindKept 13 = .ok (.getfield 37, 3) := by decide +kernel
theorem dX1_firstPickBehindKept_16 : decode cX1_firstPickBehindKept 16 = .ok (.invokevirtual 51, 3) := by decide +kernel
theorem dX1_firstPickBehindKept_19 : decode cX1_firstPickBehindKept 19 = .ok (.iconst 1, 1) := by decide +kernel
theorem dX1_firstPickBehindKept_20 : decode cX1_firstPickBehindKept 20 = .ok (.ireturn, 1) := by decide +kernel
set_option maxRecDepth 20000 in
theorem ggX1_pickEachByWeights_X1_firstPickBehindKept : GoodIn wsX1_pickEachByWeights wsX1_firstPickBehindKept := goodIn_ca (goodIn_r _ [7, 8, 9, 10, 11, 12, 6, 13, 14, 41, 42, 43, 44, 45, 46, 47, 48, 49, 50, 51, 52, 53, 54, 55] (by decide +kernel) (by decide +kernel)) (goodIn_sub (fun _ h => List.mem_cons_of_mem _ (List.mem_append_right _ h)) (by decide +kernel))
set_option maxRecDepth 20000 in
theorem gX1_pickEachByWeights_X1_firstPickBehindKept : GoodIn wsX1_pickEachByWeights (wsV RX1 55 RX1 yX1_firstPickBehindKept wsX1_firstPickBehindKept) := goodIn_app (goodIn_of _ (by decide +kernel)) ggX1_pickEachByWeights_X1_firstPickBehindKept
set_option maxRecDepth 20000 in
theorem ggX1_pickEachByWeights_X0_byWeights : GoodIn wsX1_pickEachByWeights wsX0_byWeights := goodIn_ca (goodIn_r _ [19, 20, 21, 22, 23, 24, 25, 26, 18, 27, 28, 29, 30, 31, 32, 33, 34, 35, 36, 37, 38, 39, 40, 56, 57, 58, 59] (by decide +kernel) (by decide +kernel)) (goodIn_sub (fun _ h => List.mem_cons_of_mem _ (List.mem_append_right _ h)) (by decide +kernel))
set_option maxRecDepth 20000 in
theorem gX1_pickEachByWeights_X0_byWeights : GoodIn wsX1_pickEachByWeights (wsV RX1 62 RX0 yX0_byWeights wsX0_byWeights) := goodIn_app (goodIn_of _ (by decide +kernel)) ggX1_pickEachByWeights_X0_byWeights
set_option maxRecDepth 20000 in
theorem ggX1_pickEachByWeights_X1_add : GoodIn wsX1_pickEachByWeights wsX1_add := goodIn_ca (goodIn_r _ [13, 14, 54, 55] (by decide +kernel) (by decide +kernel)) (goodIn_sub (fun _ h => List.mem_cons_of_mem _ (List.mem_append_right _ h)) (by decide +kernel))
set_option maxRecDepth 20000 in
theorem gX1_pickEachByWeights_X1_add : GoodIn wsX1_pickEachByWeights (wsV RX1 51 RX1 yX1_add wsX1_add) := goodIn_app (goodIn_of _ (by decide +kernel)) ggX1_pickEachByWeights_X1_add
theorem dX1_pickEachByWeights_0 : decode cX1_pickEachByWeights 0 = .ok (.aload_n 0, 1) := by decide +kernel
theorem dX1_pickEachByWeights_1 : decode cX1_pickEachByWeights 1 = .ok (.aload_n 1, 1) := by decide +kernel
theorem dX1_pickEachByWeights_2 : decode cX1_pickEachByWeights 2 = .ok (.invokevirtual 55, 3) := by decide +kernel
theorem dX1_pickEachByWeights_5 : decode cX1_pickEachByWeights 5 = .ok (.istore_n 3, 1) := by decide +kernel
theorem dX1_pickEachByWeights_6 : decode cX1_pickEachByWeights 6 = .ok (.iload_n 3, 1) := by decide +kernel
theorem dX1_pickEachByWeights_7 : decode cX1_pickEachByWeights 7 = .ok (.aload_n 1, 1) := by decide +kernel
theorem dX1_pickEachByWeights_8 : decode cX1_pickEachByWeights 8 = .ok (.getfield 43, 3) := by decide +kernel
theorem dX1_pickEachByWeights_11 : decode cX1_pickEachByWeights 11 = .ok (.if_icmp .ge 25, 3) := by decide +kernel
theorem dX1_pickEachByWeights_14 : decode cX1_pickEachByWeights 14 = .ok (.aload_n 0, 1) := by decide +kernel
theorem dX1_pickEachByWeights_15 : decode cX1_pickEachByWeights 15 = .ok (.aload_n 2, 1) := by decide +kernel
theorem dX1_pickEachByWeights_16 : decode cX1_pickEachByWeights 16 = .ok (.aload_n 1, 1) := by decide +kernel
theorem dX1_pickEachByWeights_17 : decode cX1_pickEachByWeights 17 = .ok (.getfield 59, 3) := by decide +kernel
theorem dX1_pickEachByWeights_20 : decode cX1_pickEachByWeights 20 = .ok (.aload_n 1, 1) := by decide +kernel
theorem dX1_pickEachByWeights_21 : decode cX1_pickEachByWeights 21 = .ok (.getfield 43, 3) := by decide +kernel
theorem dX1_pickEachByWeights_24 : decode cX1_pickEachByWeights 24 = .ok (.invokevirtual 62, 3) := by decide +kernel
theorem dX1_pickEachByWeights_27 : decode cX1_pickEachByWeights 27 = .ok (.invokevirtual 51, 3) := by decide +kernel
theorem dX1_pickEachByWeights_30 : decode cX1_pickEachByWeights 30 = .ok (.iinc 3 1, 3) := by decide +kernel
theorem dX1_pickEachByWeights_33 : decode cX1_pickEachByWeights 33 = .ok (.goto (-27), 3) := by decide +kernel
theorem dX1_pickEachByWeights_36 : decode cX1_pickEachByWeights 36 = .ok (.return_, 1) := by decide +kernel
set_option maxRecDepth 20000 in
theorem ggX1_pickWithDrawsOfTheirOwn_X2_total : GoodIn wsX1_pickWithDrawsOfTheirOwn wsX2_total := goodIn_ca (goodIn_r _ [7, 8, 9, 10, 11, 12, 43, 44, 45, 46, 47, 48, 49, 50, 51, 52, 53, 54, 55] (by decide +kernel) (by decide +kernel)) (goodIn_sub (fun _ h => List.mem_cons_of_mem _ (List.mem_append_right _ h)) (by decide +kernel))
set_option maxRecDepth 20000 in
theorem gX1_pickWithDrawsOfTheirOwn_X2_total : GoodIn wsX1_pickWithDrawsOfTheirOwn (wsV RX1 68 RX2 yX2_total wsX2_total) := goodIn_app (goodIn_of _ (by decide +kernel)) ggX1_pickWithDrawsOfTheirOwn_X2_total
set_option maxRecDepth 20000 in
theorem ggX1_pickWithDrawsOfTheirOwn_X1_firstPickBehindKept : GoodIn wsX1_pickWithDrawsOfTheirOwn wsX1_firstPickBehindKept := goodIn_ca (goodIn_r _ [17, 18, 19, 20, 21, 22, 16, 23, 24, 43, 44, 45, 46, 47, 48, 49, 50, 51, 52, 53, 54, 55, 56, 57] (by decide +kernel) (by decide +kernel)) (goodIn_sub (fun _ h => List.mem_cons_of_mem _ (List.mem_append_right _ h)) (by decide +kernel))
set_option maxRecDepth 20000 in
theorem gX1_pickWithDrawsOfTheirOwn_X1_firstPickBehindKept : GoodIn wsX1_pickWithDrawsOfTheirOwn (wsV RX1 55 RX1 yX1_firstPickBehindKept wsX1_firstPickBehindKept) := goodIn_app (goodIn_of _ (by decide +kernel)) ggX1_pickWithDrawsOfTheirOwn_X1_firstPickBehindKept
set_option maxRecDepth 20000 in
theorem ggX1_pickWithDrawsOfTheirOwn_X0_below : GoodIn wsX1_pickWithDrawsOfTheirOwn wsX0_below := goodIn_ca (goodIn_r _ [29, 30, 31, 32, 28, 33, 34, 35, 36, 37, 38, 39, 58, 59, 60, 61] (by decide +kernel) (by decide +kernel)) (goodIn_sub (fun _ h => List.mem_cons_of_mem _ (List.mem_append_right _ h)) (by decide +kernel))
set_option maxRecDepth 20000 in
theorem gX1_pickWithDrawsOfTheirOwn_X0_below : GoodIn wsX1_pickWithDrawsOfTheirOwn (wsV RX1 72 RX0 yX0_below wsX0_below) := goodIn_app (goodIn_of _ (by decide +kernel)) ggX1_pickWithDrawsOfTheirOwn_X0_below
set_option maxRecDepth 20000 in
theorem ggX1_pickWithDrawsOfTheirOwn_X4_firstAbove : GoodIn wsX1_pickWithDrawsOfTheirOwn wsX4_firstAbove := goodIn_ca (goodIn_r _ [41, 42] (by decide +kernel) (by decide +kernel)) (goodIn_sub (fun _ h => List.mem_cons_of_mem _ (List.mem_append_right _ h)) (by decide +kernel))
set_option maxRecDepth 20000 in
theorem gX1_pickWithDrawsOfTheirOwn_X4_firstAbove_n76 : GoodIn wsX1_pickWithDrawsOfTheirOwn (wsX4_firstAbove) := ggX1_pickWithDrawsOfTheirOwn_X4_firstAbove
set_option maxRecDepth 20000 in
theorem ggX1_pickWithDrawsOfTheirOwn_X1_add : GoodIn wsX1_pickWithDrawsOfTheirOwn wsX1_add := goodIn_ca (goodIn_r _ [23, 24, 56, 57] (by decide +kernel) (by decide +kernel)) (goodIn_sub (fun _ h => List.mem_cons_of_mem _ (List.mem_append_right _ h)) (by decide +kernel))
set_option maxRecDepth 20000 in
theorem gX1_pickWithDrawsOfTheirOwn_X1_add : GoodIn wsX1_pickWithDrawsOfTheirOwn (wsV RX1 51 RX1 yX1_add wsX1_add) := goodIn_app (goodIn_of _ (by decide +kernel)) ggX1_pickWithDrawsOfTheirOwn_X1_add
theorem dX1_pickWithDrawsOfTheirOwn_0 : decode cX1_pickWithDrawsOfTheirOwn 0 = .ok (.aload_n 1, 1) := by decide +kernel
theorem dX1_pickWithDrawsOfTheirOwn_1 : decode cX1_pickWithDrawsOfTheirOwn 1 = .ok (.invokevirtual 68, 3) := by decide +kernel
theorem dX1_pickWithDrawsOfTheirOwn_4 : decode cX1_pickWithDrawsOfTheirOwn 4 = .ok (.lstore_n 3, 1) := by decide +kernel
theorem dX1_pickWithDrawsOfTheirOwn_5 : decode cX1_pickWithDrawsOfTheirOwn 5 = .ok (.aload_n 0, 1) := by decide +kernel
theorem dX1_pickWithDrawsOfTheirOwn_6 : decode cX1_pickWithDrawsOfTheirOwn 6 = .ok (.aload_n 1, 1) := by decide +kernel
theorem dX1_pickWithDrawsOfTheirOwn_7 : decode cX1_pickWithDrawsOfTheirOwn 7 = .ok (.invokevirtual 55, 3) := by decide +kernel
theorem dX1_pickWithDrawsOfTheirOwn_10 : decode cX1_pickWithDrawsOfTheirOwn 10 = .ok (.istore 5, 2) := by decide +kernel
theorem dX1_pickWithDrawsOfTheirOwn_12 : decode cX1_pickWithDrawsOfTheirOwn 12 = .ok (.iload 5, 2) := by decide +kernel
theorem dX1_pickWithDrawsOfTheirOwn_14 : decode cX1_pickWithDrawsOfTheirOwn 14 = .ok (.aload_n 1, 1) := by decide +kernel
theorem dX1_pickWithDrawsOfTheirOwn_15 : decode cX1_pickWithDrawsOfTheirOwn 15 = .ok (.getfield 43, 3) := by decide +kernel
theorem dX1_pickWithDrawsOfTheirOwn_18 : decode cX1_pickWithDrawsOfTheirOwn 18 = .ok (.if_icmp .ge 40, 3) := by decide +kernel
theorem dX1_pickWithDrawsOfTheirOwn_21 : decode cX1_pickWithDrawsOfTheirOwn 21 = .ok (.aload_n 0, 1) := by decide +kernel
theorem dX1_pickWithDrawsOfTheirOwn_22 : decode cX1_pickWithDrawsOfTheirOwn 22 = .ok (.iload 5, 2) := by decide +kernel
theorem dX1_pickWithDrawsOfTheirOwn_24 : decode cX1_pickWithDrawsOfTheirOwn 24 = .ok (.i2l, 1) := by decide +kernel
theorem dX1_pickWithDrawsOfTheirOwn_25 : decode cX1_pickWithDrawsOfTheirOwn 25 = .ok (.lload_n 3, 1) := by decide +kernel
theorem dX1_pickWithDrawsOfTheirOwn_26 : decode cX1_pickWithDrawsOfTheirOwn 26 = .ok (.lmul, 1) := by decide +kernel
theorem dX1_pickWithDrawsOfTheirOwn_27 : decode cX1_pickWithDrawsOfTheirOwn 27 = .ok (.aload_n 2, 1) := by decide +kernel
theorem dX1_pickWithDrawsOfTheirOwn_28 : decode cX1_pickWithDrawsOfTheirOwn 28 = .ok (.lload_n 3, 1) := by decide +kernel
theorem dX1_pickWithDrawsOfTheirOwn_29 : decode cX1_pickWithDrawsOfTheirOwn 29 = .ok (.invokevirtual 72, 3) := by decide +kernel
theorem dX1_pickWithDrawsOfTheirOwn_32 : decode cX1_pickWithDrawsOfTheirOwn 32 = .ok (.ladd, 1) := by decide +kernel
theorem dX1_pickWithDrawsOfTheirOwn_33 : decode cX1_pickWithDrawsOfTheirOwn 33 = .ok (.aload_n 1, 1) := by decide +kernel
theorem dX1_pickWithDrawsOfTheirOwn_34 : decode cX1_pickWithDrawsOfTheirOwn 34 = .ok (.getfield 43, 3) := by decide +kernel
theorem dX1_pickWithDrawsOfTheirOwn_37 : decode cX1_pickWithDrawsOfTheirOwn 37 = .ok (.i2l, 1) := by decide +kernel
theorem dX1_pickWithDrawsOfTheirOwn_38 : decode cX1_pickWithDrawsOfTheirOwn 38 = .ok (.aload_n 1, 1) := by decide +kernel
theorem dX1_pickWithDrawsOfTheirOwn_39 : decode cX1_pickWithDrawsOfTheirOwn 39 = .ok (.getfield 59, 3) := by decide +kernel
theorem dX1_pickWithDrawsOfTheirOwn_42 : decode cX1_pickWithDrawsOfTheirOwn 42 = .ok (.aload_n 1, 1) := by decide +kernel
theorem dX1_pickWithDrawsOfTheirOwn_43 : decode cX1_pickWithDrawsOfTheirOwn 43 = .ok (.getfield 43, 3) := by decide +kernel
theorem dX1_pickWithDrawsOfTheirOwn_46 : decode cX1_pickWithDrawsOfTheirOwn 46 = .ok (.invokestatic 76, 3) := by decide +kernel
theorem dX1_pickWithDrawsOfTheirOwn_49 : decode cX1_pickWithDrawsOfTheirOwn 49 = .ok (.invokevirtual 51, 3) := by decide +kernel
theorem dX1_pickWithDrawsOfTheirOwn_52 : decode cX1_pickWithDrawsOfTheirOwn 52 = .ok (.iinc 5 1, 3) := by decide +kernel
theorem dX1_pickWithDrawsOfTheirOwn_55 : decode cX1_pickWithDrawsOfTheirOwn 55 = .ok (.goto (-43), 3) := by decide +kernel
theorem dX1_pickWithDrawsOfTheirOwn_58 : decode cX1_pickWithDrawsOfTheirOwn 58 = .ok (.return_, 1) := by decide +kernel
set_option maxRecDepth 20000 in
theorem ggX1_pickWithOneDraw_X2_total : GoodIn wsX1_pickWithOneDraw wsX2_total := goodIn_ca (goodIn_r _ [7, 8, 9, 10, 11, 12, 43, 44, 45, 46, 47, 48, 49, 50, 51, 52, 53, 54, 55] (by decide +kernel) (by decide +kernel)) (goodIn_sub (fun _ h => List.mem_cons_of_mem _ (List.mem_append_right _ h)) (by decide +kernel))
set_option maxRecDepth 20000 in
theorem gX1_pickWithOneDraw_X2_total : GoodIn wsX1_pickWithOneDraw (wsV RX1 68 RX2 yX2_total wsX2_total) := goodIn_app (goodIn_of _ (by decide +kernel)) ggX1_pickWithOneDraw_X2_total
set_option maxRecDepth 20000 in
theorem ggX1_pickWithOneDraw_X0_below : GoodIn wsX1_pickWithOneDraw wsX0_below := goodIn_ca (goodIn_r _ [17, 18, 19, 20, 16, 21, 22, 23, 24, 25, 26, 27, 56, 57, 58, 59] (by decide +kernel) (by decide +kernel)) (goodIn_sub (fun _ h => List.mem_cons_of_mem _ (List.mem_append_right _ h)) (by decide +kernel))
set_option maxRecDepth 20000 in
theorem gX1_pickWithOneDraw_X0_below : GoodIn wsX1_pickWithOneDraw (wsV RX1 72 RX0 yX0_below wsX0_below) := goodIn_app (goodIn_of _ (by decide +kernel)) ggX1_pickWithOneDraw_X0_below
set_option maxRecDepth 20000 in
theorem ggX1_pickWithOneDraw_X1_firstPickBehindKept : GoodIn wsX1_pickWithOneDraw wsX1_firstPickBehindKept := goodIn_ca (goodIn_r _ [32, 33, 34, 35, 36, 37, 31, 38, 39, 43, 44, 45, 46, 47, 48, 49, 50, 51, 52, 53, 54, 55, 60, 61] (by decide +kernel) (by decide +kernel)) (goodIn_sub (fun _ h => List.mem_cons_of_mem _ (List.mem_append_right _ h)) (by decide +kernel))
set_option maxRecDepth 20000 in
theorem gX1_pickWithOneDraw_X1_firstPickBehindKept : GoodIn wsX1_pickWithOneDraw (wsV RX1 55 RX1 yX1_firstPickBehindKept wsX1_firstPickBehindKept) := goodIn_app (goodIn_of _ (by decide +kernel)) ggX1_pickWithOneDraw_X1_firstPickBehindKept
set_option maxRecDepth 20000 in
theorem ggX1_pickWithOneDraw_X4_firstAbove : GoodIn wsX1_pickWithOneDraw wsX4_firstAbove := goodIn_ca (goodIn_r _ [41, 42] (by decide +kernel) (by decide +kernel)) (goodIn_sub (fun _ h => List.mem_cons_of_mem _ (List.mem_append_right _ h)) (by decide +kernel))
set_option maxRecDepth 20000 in
theorem gX1_pickWithOneDraw_X4_firstAbove_n76 : GoodIn wsX1_pickWithOneDraw (wsX4_firstAbove) := ggX1_pickWithOneDraw_X4_firstAbove
set_option maxRecDepth 20000 in
theorem ggX1_pickWithOneDraw_X1_add : GoodIn wsX1_pickWithOneDraw wsX1_add := goodIn_ca (goodIn_r _ [38, 39, 60, 61] (by decide +kernel) (by decide +kernel)) (goodIn_sub (fun _ h => List.mem_cons_of_mem _ (List.mem_append_right _ h)) (by decide +kernel))
set_option maxRecDepth 20000 in
theorem gX1_pickWithOneDraw_X1_add : GoodIn wsX1_pickWithOneDraw (wsV RX1 51 RX1 yX1_add wsX1_add) := goodIn_app (goodIn_of _ (by decide +kernel)) ggX1_pickWithOneDraw_X1_add
theorem dX1_pickWithOneDraw_0 : decode cX1_pickWithOneDraw 0 = .ok (.aload_n 1, 1) := by decide +kernel
theorem dX1_pickWithOneDraw_1 : decode cX1_pickWithOneDraw 1 = .ok (.invokevirtual 68, 3) := by decide +kernel
theorem dX1_pickWithOneDraw_4 : decode cX1_pickWithOneDraw 4 = .ok (.lstore_n 3, 1) := by decide +kernel
theorem dX1_pickWithOneDraw_5 : decode cX1_pickWithOneDraw 5 = .ok (.aload_n 2, 1) := by decide +kernel
theorem dX1_pickWithOneDraw_6 : decode cX1_pickWithOneDraw 6 = .ok (.lload_n 3, 1) := by decide +kernel
theorem dX1_pickWithOneDraw_7 : decode cX1_pickWithOneDraw 7 = .ok (.invokevirtual 72, 3) := by decide +kernel
theorem dX1_pickWithOneDraw_10 : decode cX1_pickWithOneDraw 10 = .ok (.lstore 5, 2) := by decide +kernel
theorem dX1_pickWithOneDraw_12 : decode cX1_pickWithOneDraw 12 = .ok (.aload_n 0, 1) := by decide +kernel
theorem dX1_pickWithOneDraw_13 : decode cX1_pickWithOneDraw 13 = .ok (.aload_n 1, 1) := by decide +kernel
theorem dX1_pickWithOneDraw_14 : decode cX1_pickWithOneDraw 14 = .ok (.invokevirtual 55, 3) := by decide +kernel
theorem dX1_pickWithOneDraw_17 : decode cX1_pickWithOneDraw 17 = .ok (.istore 7, 2) := by decide +kernel
theorem dX1_pickWithOneDraw_19 : decode cX1_pickWithOneDraw 19 = .ok (.iload 7, 2) := by decide +kernel
theorem dX1_pickWithOneDraw_21 : decode cX1_pickWithOneDraw 21 = .ok (.aload_n 1, 1) := by decide +kernel
theorem dX1_pickWithOneDraw_22 : decode cX1_pickWithOneDraw 22 = .ok (.getfield 43, 3) := by decide +kernel
theorem dX1_pickWithOneDraw_25 : decode cX1_pickWithOneDraw 25 = .ok (.if_icmp .ge 37, 3) := by decide +kernel
theorem dX1_pickWithOneDraw_28 : decode cX1_pickWithOneDraw 28 = .ok (.aload_n 0, 1) := by decide +kernel
theorem dX1_pickWithOneDraw_29 : decode cX1_pickWithOneDraw 29 = .ok (.iload 7, 2) := by decide +kernel
theorem dX1_pickWithOneDraw_31 : decode cX1_pickWithOneDraw 31 = .ok (.i2l, 1) := by decide +kernel
theorem dX1_pickWithOneDraw_32 : decode cX1_pickWithOneDraw 32 = .ok (.lload_n 3, 1) := by decide +kernel
theorem dX1_pickWithOneDraw_33 : decode cX1_pickWithOneDraw 33 = .ok (.lmul, 1) := by decide +kernel
theorem dX1_pickWithOneDraw_34 : decode cX1_pickWithOneDraw 34 = .ok (.lload 5, 2) := by decide +kernel
theorem dX1_pickWithOneDraw_36 : decode cX1_pickWithOneDraw 36 = .ok (.ladd, 1) := by decide +kernel
theorem dX1_pickWithOneDraw_37 : decode cX1_pickWithOneDraw 37 = .ok (.aload_n 1, 1) := by decide +kernel
theorem dX1_pickWithOneDraw_38 : decode cX1_pickWithOneDraw 38 = .ok (.getfield 43, 3) := by decide +kernel
theorem dX1_pickWithOneDraw_41 : decode cX1_pickWithOneDraw 41 = .ok (.i2l, 1) := by decide +kernel
theorem dX1_pickWithOneDraw_42 : decode cX1_pickWithOneDraw 42 = .ok (.aload_n 1, 1) := by decide +kernel
theorem dX1_pickWithOneDraw_43 : decode cX1_pickWithOneDraw 43 = .ok (.getfield 59, 3) := by decide +kernel
theorem dX1_pickWithOneDraw_46 : decode cX1_pickWithOneDraw 46 = .ok (.aload_n 1, 1) := by decide +kernel
theorem dX1_pickWithOneDraw_47 : decode cX1_pickWithOneDraw 47 = .ok (.getfield 43, 3) := by decide +kernel
theorem dX1_pickWithOneDraw_50 : decode cX1_pickWithOneDraw 50 = .ok (.invokestatic 76, 3) := by decide +kernel
theorem dX1_pickWithOneDraw_53 : decode cX1_pickWithOneDraw 53 = .ok (.invokevirtual 51, 3) := by decide +kernel
theorem dX1_pickWithOneDraw_56 : decode cX1_pickWithOneDraw 56 = .ok (.iinc 7 1, 3) := by decide +kernel
theorem dX1_pickWithOneDraw_59 : decode cX1_pickWithOneDraw 59 = .ok (.goto (-40), 3) := by decide +kernel
theorem dX1_pickWithOneDraw_62 : decode cX1_pickWithOneDraw 62 = .ok (.return_, 1) := by decide +kernel
set_option maxRecDepth 20000 in
theorem ggX1_pickByPartsAndRests_X2_total : GoodIn wsX1_pickByPartsAndRests wsX2_total := goodIn_ca (goodIn_r _ [9, 10, 11, 12, 13, 14, 43, 44, 45, 46, 47, 48, 49, 50, 51, 52, 53, 54, 55] (by decide +kernel) (by decide +kernel)) (goodIn_sub (fun _ h => List.mem_cons_of_mem _ (List.mem_append_right _ h)) (by decide +kernel))
set_option maxRecDepth 20000 in
theorem gX1_pickByPartsAndRests_X2_total : GoodIn wsX1_pickByPartsAndRests (wsV RX1 68 RX2 yX2_total wsX2_total) := goodIn_app (goodIn_of _ (by decide +kernel)) ggX1_pickByPartsAndRests_X2_total
set_option maxRecDepth 20000 in
theorem ggX1_pickByPartsAndRests_X0_byWeights : GoodIn wsX1_pickByPartsAndRests wsX0_byWeights := goodIn_ca (goodIn_r _ [19, 20, 12, 13, 14, 21, 22, 23, 18, 24, 25, 26, 27, 28, 29, 30, 31, 32, 33, 34, 35, 36, 37, 58, 59, 60, 61] (by decide +kernel) (by decide +kernel)) (goodIn_sub (fun _ h => List.mem_cons_of_mem _ (List.mem_append_right _ h)) (by decide +kernel))
set_option maxRecDepth 20000 in
theorem gX1_pickByPartsAndRests_X0_byWeights : GoodIn wsX1_pickByPartsAndRests (wsV RX1 62 RX0 yX0_byWeights wsX0_byWeights) := goodIn_app (goodIn_of _ (by decide +kernel)) ggX1_pickByPartsAndRests_X0_byWeights
set_option maxRecDepth 20000 in
theorem ggX1_pickByPartsAndRests_X1_add : GoodIn wsX1_pickByPartsAndRests wsX1_add := goodIn_ca (goodIn_r _ [42, 3, 56, 57] (by decide +kernel) (by decide +kernel)) (goodIn_sub (fun _ h => List.mem_cons_of_mem _ (List.mem_append_right _ h)) (by decide +kernel))
set_option maxRecDepth 20000 in
theorem gX1_pickByPartsAndRests_X1_add : GoodIn wsX1_pickByPartsAndRests (wsV RX1 51 RX1 yX1_add wsX1_add) := goodIn_app (goodIn_of _ (by decide +kernel)) ggX1_pickByPartsAndRests_X1_add
theorem dX1_pickByPartsAndRests_0 : decode cX1_pickByPartsAndRests 0 = .ok (.aload_n 1, 1) := by decide +kernel
theorem dX1_pickByPartsAndRests_1 : decode cX1_pickByPartsAndRests 1 = .ok (.invokevirtual 68, 3) := by decide +kernel
theorem dX1_pickByPartsAndRests_4 : decode cX1_pickByPartsAndRests 4 = .ok (.lstore_n 3, 1) := by decide +kernel
theorem dX1_pickByPartsAndRests_5 : decode cX1_pickByPartsAndRests 5 = .ok (.lload_n 3, 1) := by decide +kernel
theorem dX1_pickByPartsAndRests_6 : decode cX1_pickByPartsAndRests 6 = .ok (.lconst 0, 1) := by decide +kernel
theorem dX1_pickByPartsAndRests_7 : decode cX1_pickByPartsAndRests 7 = .ok (.lcmp, 1) := by decide +kernel
theorem dX1_pickByPartsAndRests_8 : decode cX1_pickByPartsAndRests 8 = .ok (.ifCond .gt 4, 3) := by decide +kernel
theorem dX1_pickByPartsAndRests_11 : decode cX1_pickByPartsAndRests 11 = .ok (.return_, 1) := by decide +kernel
theorem dX1_pickByPartsAndRests_12 : decode cX1_pickByPartsAndRests 12 = .ok (.aload_n 1, 1) := by decide +kernel
theorem dX1_pickByPartsAndRests_13 : decode cX1_pickByPartsAndRests 13 = .ok (.getfield 43, 3) := by decide +kernel
theorem dX1_pickByPartsAndRests_16 : decode cX1_pickByPartsAndRests 16 = .ok (.istore 5, 2) := by decide +kernel
theorem dX1_pickByPartsAndRests_18 : decode cX1_pickByPartsAndRests 18 = .ok (.iconst 0, 1) := by decide +kernel
theorem dX1_pickByPartsAndRests_19 : decode cX1_pickByPartsAndRests 19 = .ok (.istore 6, 2) := by decide +kernel
theorem dX1_pickByPartsAndRests_21 : decode cX1_pickByPartsAndRests 21 = .ok (.iload 6, 2) := by decide +kernel
theorem dX1_pickByPartsAndRests_23 : decode cX1_pickByPartsAndRests 23 = .ok (.aload_n 1, 1) := by decide +kernel
theorem dX1_pickByPartsAndRests_24 : decode cX1_pickByPartsAndRests 24 = .ok (.getfield 43, 3) := by decide +kernel
theorem dX1_pickByPartsAndRests_27 : decode cX1_pickByPartsAndRests 27 = .ok (.if_icmp .ge 61, 3) := by decide +kernel
theorem dX1_pickByPartsAndRests_30 : decode cX1_pickByPartsAndRests 30 = .ok (.aload_n 1, 1) := by decide +kernel
theorem dX1_pickByPartsAndRests_31 : decode cX1_pickByPartsAndRests 31 = .ok (.getfield 43, 3) := by decide +kernel
theorem dX1_pickByPartsAndRests_34 : decode cX1_pickByPartsAndRests 34 = .ok (.i2l, 1) := by decide +kernel
theorem dX1_pickByPartsAndRests_35 : decode cX1_pickByPartsAndRests 35 = .ok (.aload_n 1, 1) := by decide +kernel
theorem dX1_pickByPartsAndRests_36 : decode cX1_pickByPartsAndRests 36 = .ok (.getfield 59, 3) := by decide +kernel
theorem dX1_pickByPartsAndRests_39 : decode cX1_pickByPartsAndRests 39 = .ok (.iload 6, 2) := by decide +kernel
theorem dX1_pickByPartsAndRests_41 : decode cX1_pickByPartsAndRests 41 = .ok (.iaload, 1) := by decide +kernel
theorem dX1_pickByPartsAndRests_42 : decode cX1_pickByPartsAndRests 42 = .ok (.i2l, 1) := by decide +kernel
theorem dX1_pickByPartsAndRests_43 : decode cX1_pickByPartsAndRests 43 = .ok (.lmul, 1) := by decide +kernel
theorem dX1_pickByPartsAndRests_44 : decode cX1_pickByPartsAndRests 44 = .ok (.lstore 7, 2) := by decide +kernel
theorem dX1_pickByPartsAndRests_46 : decode cX1_pickByPartsAndRests 46 = .ok (.aload_n 0, 1) := by decide +kernel
theorem dX1_pickByPartsAndRests_47 : decode cX1_pickByPartsAndRests 47 = .ok (.getfield 9, 3) := by decide +kernel
theorem dX1_pickByPartsAndRests_50 : decode cX1_pickByPartsAndRests 50 = .ok (.iload 6, 2) := by decide +kernel
theorem dX1_pickByPartsAndRests_52 : decode cX1_pickByPartsAndRests 52 = .ok (.lload 7, 2) := by decide +kernel
theorem dX1_pickByPartsAndRests_54 : decode cX1_pickByPartsAndRests 54 = .ok (.lload_n 3, 1) := by decide +kernel
theorem dX1_pickByPartsAndRests_55 : decode cX1_pickByPartsAndRests 55 = .ok (.ldiv, 1) := by decide +kernel
theorem dX1_pickByPartsAndRests_56 : decode cX1_pickByPartsAndRests 56 = .ok (.l2i, 1) := by decide +kernel
theorem dX1_pickByPartsAndRests_57 : decode cX1_pickByPartsAndRests 57 = .ok (.iastore, 1) := by decide +kernel
theorem dX1_pickByPartsAndRests_58 : decode cX1_pickByPartsAndRests 58 = .ok (.aload_n 0, 1) := by decide +kernel
theorem dX1_pickByPartsAndRests_59 : decode cX1_pickByPartsAndRests 59 = .ok (.getfield 15, 3) := by decide +kernel
theorem dX1_pickByPartsAndRests_62 : decode cX1_pickByPartsAndRests 62 = .ok (.iload 6, 2) := by decide +kernel
theorem dX1_pickByPartsAndRests_64 : decode cX1_pickByPartsAndRests 64 = .ok (.lload 7, 2) := by decide +kernel
theorem dX1_pickByPartsAndRests_66 : decode cX1_pickByPartsAndRests 66 = .ok (.lload_n 3, 1) := by decide +kernel
theorem dX1_pickByPartsAndRests_67 : decode cX1_pickByPartsAndRests 67 = .ok (.lrem, 1) := by decide +kernel
theorem dX1_pickByPartsAndRests_68 : decode cX1_pickByPartsAndRests 68 = .ok (.l2i, 1) := by decide +kernel
theorem dX1_pickByPartsAndRests_69 : decode cX1_pickByPartsAndRests 69 = .ok (.iastore, 1) := by decide +kernel
theorem dX1_pickByPartsAndRests_70 : decode cX1_pickByPartsAndRests 70 = .ok (.iload 5, 2) := by decide +kernel
theorem dX1_pickByPartsAndRests_72 : decode cX1_pickByPartsAndRests 72 = .ok (.aload_n 0, 1) := by decide +kernel
theorem dX1_pickByPartsAndRests_73 : decode cX1_pickByPartsAndRests 73 = .ok (.getfield 9, 3) := by decide +kernel
theorem dX1_pickByPartsAndRests_76 : decode cX1_pickByPartsAndRests 76 = .ok (.iload 6, 2) := by decide +kernel
theorem dX1_pickByPartsAndRests_78 : decode cX1_pickByPartsAndRests 78 = .ok (.iaload, 1) := by decide +kernel
theorem dX1_pickByPartsAndRests_79 : decode cX1_pickByPartsAndRests 79 = .ok (.isub, 1) := by decide +kernel
theorem dX1_pickByPartsAndRests_80 : decode cX1_pickByPartsAndRests 80 = .ok (.istore 5, 2) := by decide +kernel
theorem dX1_pickByPartsAndRests_82 : decode cX1_pickByPartsAndRests 82 = .ok (.iinc 6 1, 3) := by decide +kernel
theorem dX1_pickByPartsAndRests_85 : decode cX1_pickByPartsAndRests 85 = .ok (.goto (-64), 3) := by decide +kernel
theorem dX1_pickByPartsAndRests_88 : decode cX1_pickByPartsAndRests 88 = .ok (.iconst 0, 1) := by decide +kernel
theorem dX1_pickByPartsAndRests_89 : decode cX1_pickByPartsAndRests 89 = .ok (.istore 6, 2) := by decide +kernel
theorem dX1_pickByPartsAndRests_91 : decode cX1_pickByPartsAndRests 91 = .ok (.iload 6, 2) := by decide +kernel
theorem dX1_pickByPartsAndRests_93 : decode cX1_pickByPartsAndRests 93 = .ok (.iload 5, 2) := by decide +kernel
theorem dX1_pickByPartsAndRests_95 : decode cX1_pickByPartsAndRests 95 = .ok (.if_icmp .ge 25, 3) := by decide +kernel
theorem dX1_pickByPartsAndRests_98 : decode cX1_pickByPartsAndRests 98 = .ok (.aload_n 0, 1) := by decide +kernel
theorem dX1_pickByPartsAndRests_99 : decode cX1_pickByPartsAndRests 99 = .ok (.aload_n 2, 1) := by decide +kernel
theorem dX1_pickByPartsAndRests_100 : decode cX1_pickByPartsAndRests 100 = .ok (.aload_n 0, 1) := by decide +kernel
theorem dX1_pickByPartsAndRests_101 : decode cX1_pickByPartsAndRests 101 = .ok (.getfield 15, 3) := by decide +kernel
theorem dX1_pickByPartsAndRests_104 : decode cX1_pickByPartsAndRests 104 = .ok (.aload_n 1, 1) := by decide +kernel
theorem dX1_pickByPartsAndRests_105 : decode cX1_pickByPartsAndRests 105 = .ok (.getfield 43, 3) := by decide +kernel
theorem dX1_pickByPartsAndRests_108 : decode cX1_pickByPartsAndRests 108 = .ok (.invokevirtual 62, 3) := by decide +kernel
theorem dX1_pickByPartsAndRests_111 : decode cX1_pickByPartsAndRests 111 = .ok (.invokevirtual 51, 3) := by decide +kernel
theorem dX1_pickByPartsAndRests_114 : decode cX1_pickByPartsAndRests 114 = .ok (.iinc 6 1, 3) := by decide +kernel
theorem dX1_pickByPartsAndRests_117 : decode cX1_pickByPartsAndRests 117 = .ok (.goto (-26), 3) := by decide +kernel
theorem dX1_pickByPartsAndRests_120 : decode cX1_pickByPartsAndRests 120 = .ok (.return_, 1) := by decide +kernel
theorem dX1_putIn_0 : decode cX1_putIn 0 = .ok (.iload_n 1, 1) := by decide +kernel
theorem dX1_putIn_1 : decode cX1_putIn 1 = .ok (.ifCond .lt 17, 3) := by decide +kernel
theorem dX1_putIn_4 : decode cX1_putIn 4 = .ok (.iload_n 1, 1) := by decide +kernel
theorem dX1_putIn_5 : decode cX1_putIn 5 = .ok (.iload_n 2, 1) := by decide +kernel
theorem dX1_putIn_6 : decode cX1_putIn 6 = .ok (.if_icmp .ge 12, 3) := by decide +kernel
theorem dX1_putIn_9 : decode cX1_putIn 9 = .ok (.aload_n 0, 1) := by decide +kernel
theorem dX1_putIn_10 : decode cX1_putIn 10 = .ok (.getfield 9, 3) := by decide +kernel
theorem dX1_putIn_13 : decode cX1_putIn 13 = .ok (.iload_n 1, 1) := by decide +kernel
theorem dX1_putIn_14 : decode cX1_putIn 14 = .ok (.iaload, 1) := by decide +kernel
theorem dX1_putIn_15 : decode cX1_putIn 15 = .ok (.ifCond .le 4, 3) := by decide +kernel
theorem dX1_putIn_18 : decode cX1_putIn 18 = .ok (.return_, 1) := by decide +kernel
theorem dX1_putIn_19 : decode cX1_putIn 19 = .ok (.iload_n 2, 1) := by decide +kernel
theorem dX1_putIn_20 : decode cX1_putIn 20 = .ok (.iconst 1, 1) := by decide +kernel
theorem dX1_putIn_21 : decode cX1_putIn 21 = .ok (.isub, 1) := by decide +kernel
theorem dX1_putIn_22 : decode cX1_putIn 22 = .ok (.istore_n 3, 1) := by decide +kernel
theorem dX1_putIn_23 : decode cX1_putIn 23 = .ok (.iload_n 3, 1) := by decide +kernel
theorem dX1_putIn_24 : decode cX1_putIn 24 = .ok (.ifCond .lt 39, 3) := by decide +kernel
theorem dX1_putIn_27 : decode cX1_putIn 27 = .ok (.aload_n 0, 1) := by decide +kernel
theorem dX1_putIn_28 : decode cX1_putIn 28 = .ok (.getfield 9, 3) := by decide +kernel
theorem dX1_putIn_31 : decode cX1_putIn 31 = .ok (.iload_n 3, 1) := by decide +kernel
theorem dX1_putIn_32 : decode cX1_putIn 32 = .ok (.iaload, 1) := by decide +kernel
theorem dX1_putIn_33 : decode cX1_putIn 33 = .ok (.ifCond .le 24, 3) := by decide +kernel
theorem dX1_putIn_36 : decode cX1_putIn 36 = .ok (.aload_n 0, 1) := by decide +kernel
theorem dX1_putIn_37 : decode cX1_putIn 37 = .ok (.getfield 9, 3) := by decide +kernel
theorem dX1_putIn_40 : decode cX1_putIn 40 = .ok (.iload_n 3, 1) := by decide +kernel
theorem dX1_putIn_41 : decode cX1_putIn 41 = .ok (.dup2, 1) := by decide +kernel
theorem dX1_putIn_42 : decode cX1_putIn 42 = .ok (.iaload, 1) := by decide +kernel
theorem dX1_putIn_43 : decode cX1_putIn 43 = .ok (.iconst 1, 1) := by decide +kernel
theorem dX1_putIn_44 : decode cX1_putIn 44 = .ok (.isub, 1) := by decide +kernel
theorem dX1_putIn_45 : decode cX1_putIn 45 = .ok (.iastore, 1) := by decide +kernel
theorem dX1_putIn_46 : decode cX1_putIn 46 = .ok (.aload_n 0, 1) := by decide +kernel
theorem dX1_putIn_47 : decode cX1_putIn 47 = .ok (.getfield 9, 3) := by decide +kernel
theorem dX1_putIn_50 : decode cX1_putIn 50 = .ok (.iload_n 1, 1) := by decide +kernel
theorem dX1_putIn_51 : decode cX1_putIn 51 = .ok (.dup2, 1) := by decide +kernel
theorem dX1_putIn_52 : decode cX1_putIn 52 = .ok (.iaload, 1) := by decide +kernel
theorem dX1_putIn_53 : decode cX1_putIn 53 = .ok (.iconst 1, 1) := by decide +kernel
theorem dX1_putIn_54 : decode cX1_putIn 54 = .ok (.iadd, 1) := by decide +kernel
theorem dX1_putIn_55 : decode cX1_putIn 55 = .ok (.iastore, 1) := by decide +kernel
theorem dX1_putIn_56 : decode cX1_putIn 56 = .ok (.return_, 1) := by decide +kernel
theorem dX1_putIn_57 : decode cX1_putIn 57 = .ok (.iinc 3 (-1), 3) := by decide +kernel
theorem dX1_putIn_60 : decode cX1_putIn 60 = .ok (.goto (-37), 3) := by decide +kernel
theorem dX1_putIn_63 : decode cX1_putIn 63 = .ok (.return_, 1) := by decide +kernel
set_option maxRecDepth 20000 in
theorem ggX2_init_X1_init : GoodIn wsX2_init wsX1_init := goodIn_r _ [21, 22, 2, 3, 8, 23, 24, 25, 26] (by decide +kernel) (by decide +kernel)
set_option maxRecDepth 20000 in
theorem gX2_init_X1_init_n11 : GoodIn wsX2_init (wsX1_init) := ggX2_init_X1_init
theorem dX2_init_0 : decode cX2_init 0 = .ok (.aload_n 0, 1) := by decide +kernel
theorem dX2_init_1 : decode cX2_init 1 = .ok (.invokespecial 3, 3) := by decide +kernel
theorem dX2_init_4 : decode cX2_init 4 = .ok (.aload_n 0, 1) := by decide +kernel
theorem dX2_init_5 : decode cX2_init 5 = .ok (.new 9, 3) := by decide +kernel
theorem dX2_init_8 : decode cX2_init 8 = .ok (.dup, 1) := by decide +kernel
theorem dX2_init_9 : decode cX2_init 9 = .ok (.invokespecial 11, 3) := by decide +kernel
theorem dX2_init_12 : decode cX2_init 12 = .ok (.putfield 12, 3) := by decide +kernel
theorem dX2_init_15 : decode cX2_init 15 = .ok (.aload_n 0, 1) := by decide +kernel
theorem dX2_init_16 : decode cX2_init 16 = .ok (.bipush 16, 2) := by decide +kernel
theorem dX2_init_18 : decode cX2_init 18 = .ok (.newarray .int, 2) := by decide +kernel
theorem dX2_init_20 : decode cX2_init 20 = .ok (.putfield 18, 3) := by decide +kernel
theorem dX2_init_23 : decode cX2_init 23 = .ok (.aload_n 0, 1) := by decide +kernel
theorem dX2_init_24 : decode cX2_init 24 = .ok (.ldc 22, 2) := by decide +kernel
theorem dX2_init_26 : decode cX2_init 26 = .ok (.putfield 23, 3) := by decide +kernel
theorem dX2_init_29 : decode cX2_init 29 = .ok (.aload_n 0, 1) := by decide +kernel
theorem dX2_init_30 : decode cX2_init 30 = .ok (.dconst 1, 1) := by decide +kernel
theorem dX2_init_31 : decode cX2_init 31 = .ok (.putfield 27, 3) := by decide +kernel
theorem dX2_init_34 : decode cX2_init 34 = .ok (.aload_n 0, 1) := by decide +kernel
theorem dX2_init_35 : decode cX2_init 35 = .ok (.bipush 16, 2) := by decide +kernel
theorem dX2_init_37 : decode cX2_init 37 = .ok (.newarray .int, 2) := by decide +kernel
theorem dX2_init_39 : decode cX2_init 39 = .ok (.putfield 31, 3) := by decide +kernel
theorem dX2_init_42 : decode cX2_init 42 = .ok (.aload_n 0, 1) := by decide +kernel
theorem dX2_init_43 : decode cX2_init 43 = .ok (.bipush 16, 2) := by decide +kernel
theorem dX2_init_45 : decode cX2_init 45 = .ok (.newarray .int, 2) := by decide +kernel
theorem dX2_init_47 : decode cX2_init 47 = .ok (.putfield 34, 3) := by decide +kernel
theorem dX2_init_50 : decode cX2_init 50 = .ok (.aload_n 0, 1) := by decide +kernel
theorem dX2_init_51 : decode cX2_init 51 = .ok (.bipush 16, 2) := by decide +kernel
theorem dX2_init_53 : decode cX2_init 53 = .ok (.bipush 31, 2) := by decide +kernel
theorem dX2_init_55 : decode cX2_init 55 = .ok (.multianewarray 37 2, 4) := by decide +kernel
theorem dX2_init_59 : decode cX2_init 59 = .ok (.putfield 39, 3) := by decide +kernel
theorem dX2_init_62 : decode cX2_init 62 = .ok (.aload_n 0, 1) := by decide +kernel
theorem dX2_init_63 : decode cX2_init 63 = .ok (.bipush 16, 2) := by decide +kernel
theorem dX2_init_65 : decode cX2_init 65 = .ok (.newarray .int, 2) := by decide +kernel
theorem dX2_init_67 : decode cX2_init 67 = .ok (.putfield 42, 3) := by decide +kernel
theorem dX2_init_70 : decode cX2_init 70 = .ok (.aload_n 0, 1) := by decide +kernel
theorem dX2_init_71 : decode cX2_init 71 = .ok (.bipush 16, 2) := by decide +kernel
theorem dX2_init_73 : decode cX2_init 73 = .ok (.newarray .int, 2) := by decide +kernel
theorem dX2_init_75 : decode cX2_init 75 = .ok (.putfield 45, 3) := by decide +kernel
theorem dX2_init_78 : decode cX2_init 78 = .ok (.aload_n 0, 1) := by decide +kernel
theorem dX2_init_79 : decode cX2_init 79 = .ok (.bipush 16, 2) := by decide +kernel
theorem dX2_init_81 : decode cX2_init 81 = .ok (.bipush 31, 2) := by decide +kernel
theorem dX2_init_83 : decode cX2_init 83 = .ok (.multianewarray 37 2, 4) := by decide +kernel
theorem dX2_init_87 : decode cX2_init 87 = .ok (.putfield 48, 3) := by decide +kernel
theorem dX2_init_90 : decode cX2_init 90 = .ok (.return_, 1) := by decide +kernel
theorem dX2_isBegun_0 : decode cX2_isBegun 0 = .ok (.aload_n 0, 1) := by decide +kernel
theorem dX2_isBegun_1 : decode cX2_isBegun 1 = .ok (.getfield 51, 3) := by decide +kernel
theorem dX2_isBegun_4 : decode cX2_isBegun 4 = .ok (.ifCond .le 7, 3) := by decide +kernel
theorem dX2_isBegun_7 : decode cX2_isBegun 7 = .ok (.iconst 1, 1) := by decide +kernel
theorem dX2_isBegun_8 : decode cX2_isBegun 8 = .ok (.goto 4, 3) := by decide +kernel
theorem dX2_isBegun_11 : decode cX2_isBegun 11 = .ok (.iconst 0, 1) := by decide +kernel
theorem dX2_isBegun_12 : decode cX2_isBegun 12 = .ok (.ireturn, 1) := by decide +kernel
theorem dX2_hasRow_0 : decode cX2_hasRow 0 = .ok (.iload_n 1, 1) := by decide +kernel
theorem dX2_hasRow_1 : decode cX2_hasRow 1 = .ok (.ifCond .lt 15, 3) := by decide +kernel
theorem dX2_hasRow_4 : decode cX2_hasRow 4 = .ok (.iload_n 1, 1) := by decide +kernel
theorem dX2_hasRow_5 : decode cX2_hasRow 5 = .ok (.aload_n 0, 1) := by decide +kernel
theorem dX2_hasRow_6 : decode cX2_hasRow 6 = .ok (.getfield 51, 3) := by decide +kernel
theorem dX2_hasRow_9 : decode cX2_hasRow 9 = .ok (.if_icmp .ge 7, 3) := by decide +kernel
theorem dX2_hasRow_12 : decode cX2_hasRow 12 = .ok (.iconst 1, 1) := by decide +kernel
theorem dX2_hasRow_13 : decode cX2_hasRow 13 = .ok (.goto 4, 3) := by decide +kernel
theorem dX2_hasRow_16 : decode cX2_hasRow 16 = .ok (.iconst 0, 1) := by decide +kernel
theorem dX2_hasRow_17 : decode cX2_hasRow 17 = .ok (.ireturn, 1) := by decide +kernel
theorem dX2_places_0 : decode cX2_places 0 = .ok (.aload_n 0, 1) := by decide +kernel
theorem dX2_places_1 : decode cX2_places 1 = .ok (.getfield 54, 3) := by decide +kernel
theorem dX2_places_4 : decode cX2_places 4 = .ok (.iconst 1, 1) := by decide +kernel
theorem dX2_places_5 : decode cX2_places 5 = .ok (.iadd, 1) := by decide +kernel
theorem dX2_places_6 : decode cX2_places 6 = .ok (.ireturn, 1) := by decide +kernel
set_option maxRecDepth 20000 in
theorem ggX2_hasPlace_X2_places : GoodIn wsX2_hasPlace wsX2_places := goodIn_r _ [5, 6, 7, 8, 9, 10, 11, 12, 13, 14, 15, 16, 17, 18, 19] (by decide +kernel) (by decide +kernel)
set_option maxRecDepth 20000 in
theorem gX2_hasPlace_X2_places : GoodIn wsX2_hasPlace (wsV RX2 57 RX2 yX2_places wsX2_places) := goodIn_app (goodIn_of _ (by decide +kernel)) ggX2_hasPlace_X2_places
theorem dX2_hasPlace_0 : decode cX2_hasPlace 0 = .ok (.iload_n 1, 1) := by decide +kernel
theorem dX2_hasPlace_1 : decode cX2_hasPlace 1 = .ok (.ifCond .lt 15, 3) := by decide +kernel
theorem dX2_hasPlace_4 : decode cX2_hasPlace 4 = .ok (.iload_n 1, 1) := by decide +kernel
theorem dX2_hasPlace_5 : decode cX2_hasPlace 5 = .ok (.aload_n 0, 1) := by decide +kernel
theorem dX2_hasPlace_6 : decode cX2_hasPlace 6 = .ok (.invokevirtual 57, 3) := by decide +kernel
theorem dX2_hasPlace_9 : decode cX2_hasPlace 9 = .ok (.if_icmp .ge 7, 3) := by decide +kernel
theorem dX2_hasPlace_12 : decode cX2_hasPlace 12 = .ok (.iconst 1, 1) := by decide +kernel
theorem dX2_hasPlace_13 : decode cX2_hasPlace 13 = .ok (.goto 4, 3) := by decide +kernel
theorem dX2_hasPlace_16 : decode cX2_hasPlace 16 = .ok (.iconst 0, 1) := by decide +kernel
theorem dX2_hasPlace_17 : decode cX2_hasPlace 17 = .ok (.ireturn, 1) := by decide +kernel
theorem dX2_end_0 : decode cX2_end 0 = .ok (.aload_n 0, 1) := by decide +kernel
theorem dX2_end_1 : decode cX2_end 1 = .ok (.iconst 0, 1) := by decide +kernel
theorem dX2_end_2 : decode cX2_end 2 = .ok (.putfield 51, 3) := by decide +kernel
theorem dX2_end_5 : decode cX2_end 5 = .ok (.aload_n 0, 1) := by decide +kernel
theorem dX2_end_6 : decode cX2_end 6 = .ok (.iconst 0, 1) := by decide +kernel
theorem dX2_end_7 : decode cX2_end 7 = .ok (.putfield 54, 3) := by decide +kernel
theorem dX2_end_10 : decode cX2_end 10 = .ok (.aload_n 0, 1) := by decide +kernel
theorem dX2_end_11 : decode cX2_end 11 = .ok (.iconst 0, 1) := by decide +kernel
theorem dX2_end_12 : decode cX2_end 12 = .ok (.putfield 61, 3) := by decide +kernel
theorem dX2_end_15 : decode cX2_end 15 = .ok (.aload_n 0, 1) := by decide +kernel
theorem dX2_end_16 : decode cX2_end 16 = .ok (.ldc 22, 2) := by decide +kernel
theorem dX2_end_18 : decode cX2_end 18 = .ok (.putfield 23, 3) := by decide +kernel
theorem dX2_end_21 : decode cX2_end 21 = .ok (.aload_n 0, 1) := by decide +kernel
theorem dX2_end_22 : decode cX2_end 22 = .ok (.dconst 1, 1) := by decide +kernel
theorem dX2_end_23 : decode cX2_end 23 = .ok (.putfield 27, 3) := by decide +kernel
theorem dX2_end_26 : decode cX2_end 26 = .ok (.return_, 1) := by decide +kernel
set_option maxRecDepth 20000 in
theorem ggX2_beginWith_X2_end : GoodIn wsX2_beginWith wsX2_end := goodIn_r _ [10, 5, 11, 12, 13, 14, 15, 42, 43, 44, 45, 46, 47, 48, 49, 50, 51, 52, 53, 54] (by decide +kernel) (by decide +kernel)
set_option maxRecDepth 20000 in
theorem gX2_beginWith_X2_end : GoodIn wsX2_beginWith (wsV RX2 64 RX2 yX2_end wsX2_end) := goodIn_app (goodIn_of _ (by decide +kernel)) ggX2_beginWith_X2_end
set_option maxRecDepth 20000 in
theorem ggX2_beginWith_X0_byWeights : GoodIn wsX2_beginWith wsX0_byWeights := goodIn_ca (goodIn_r _ [20, 21, 22, 23, 24, 25, 26, 27, 19, 28, 29, 30, 31, 32, 33, 34, 35, 36, 37, 38, 39, 40, 41, 55, 56, 57, 58] (by decide +kernel) (by decide +kernel)) (goodIn_sub (fun _ h => List.mem_cons_of_mem _ (List.mem_append_right _ h)) (by decide +kernel))
set_option maxRecDepth 20000 in
theorem gX2_beginWith_X0_byWeights : GoodIn wsX2_beginWith (wsV RX2 67 RX0 yX0_byWeights wsX0_byWeights) := goodIn_app (goodIn_of _ (by decide +kernel)) ggX2_beginWith_X0_byWeights
theorem dX2_beginWith_0 : decode cX2_beginWith 0 = .ok (.aload_n 0, 1) := by decide +kernel
theorem dX2_beginWith_1 : decode cX2_beginWith 1 = .ok (.invokevirtual 64, 3) := by decide +kernel
theorem dX2_beginWith_4 : decode cX2_beginWith 4 = .ok (.iconst 0, 1) := by decide +kernel
theorem dX2_beginWith_5 : decode cX2_beginWith 5 = .ok (.istore 4, 2) := by decide +kernel
theorem dX2_beginWith_7 : decode cX2_beginWith 7 = .ok (.iload 4, 2) := by decide +kernel
theorem dX2_beginWith_9 : decode cX2_beginWith 9 = .ok (.iload_n 1, 1) := by decide +kernel
theorem dX2_beginWith_10 : decode cX2_beginWith 10 = .ok (.if_icmp .ge 56, 3) := by decide +kernel
theorem dX2_beginWith_13 : decode cX2_beginWith 13 = .ok (.aload_n 3, 1) := by decide +kernel
theorem dX2_beginWith_14 : decode cX2_beginWith 14 = .ok (.aload_n 2, 1) := by decide +kernel
theorem dX2_beginWith_15 : decode cX2_beginWith 15 = .ok (.bipush 6, 2) := by decide +kernel
theorem dX2_beginWith_17 : decode cX2_beginWith 17 = .ok (.invokevirtual 67, 3) := by decide +kernel
theorem dX2_beginWith_20 : decode cX2_beginWith 20 = .ok (.istore 5, 2) := by decide +kernel
theorem dX2_beginWith_22 : decode cX2_beginWith 22 = .ok (.iload 5, 2) := by decide +kernel
theorem dX2_beginWith_24 : decode cX2_beginWith 24 = .ok (.ldc 73, 2) := by decide +kernel
theorem dX2_beginWith_26 : decode cX2_beginWith 26 = .ok (.if_icmp .ne 6, 3) := by decide +kernel
theorem dX2_beginWith_29 : decode cX2_beginWith 29 = .ok (.ldc 73, 2) := by decide +kernel
theorem dX2_beginWith_31 : decode cX2_beginWith 31 = .ok (.ireturn, 1) := by decide +kernel
theorem dX2_beginWith_32 : decode cX2_beginWith 32 = .ok (.aload_n 0, 1) := by decide +kernel
theorem dX2_beginWith_33 : decode cX2_beginWith 33 = .ok (.getfield 31, 3) := by decide +kernel
theorem dX2_beginWith_36 : decode cX2_beginWith 36 = .ok (.iload 4, 2) := by decide +kernel
theorem dX2_beginWith_38 : decode cX2_beginWith 38 = .ok (.iload 5, 2) := by decide +kernel
theorem dX2_beginWith_40 : decode cX2_beginWith 40 = .ok (.iastore, 1) := by decide +kernel
theorem dX2_beginWith_41 : decode cX2_beginWith 41 = .ok (.aload_n 0, 1) := by decide +kernel
theorem dX2_beginWith_42 : decode cX2_beginWith 42 = .ok (.getfield 34, 3) := by decide +kernel
theorem dX2_beginWith_45 : decode cX2_beginWith 45 = .ok (.iload 4, 2) := by decide +kernel
theorem dX2_beginWith_47 : decode cX2_beginWith 47 = .ok (.iconst 1, 1) := by decide +kernel
theorem dX2_beginWith_48 : decode cX2_beginWith 48 = .ok (.iastore, 1) := by decide +kernel
theorem dX2_beginWith_49 : decode cX2_beginWith 49 = .ok (.aload_n 0, 1) := by decide +kernel
theorem dX2_beginWith_50 : decode cX2_beginWith 50 = .ok (.getfield 39, 3) := by decide +kernel
theorem dX2_beginWith_53 : decode cX2_beginWith 53 = .ok (.iload 4, 2) := by decide +kernel
theorem dX2_beginWith_55 : decode cX2_beginWith 55 = .ok (.aaload, 1) := by decide +kernel
theorem dX2_beginWith_56 : decode cX2_beginWith 56 = .ok (.iconst 0, 1) := by decide +kernel
theorem dX2_beginWith_57 : decode cX2_beginWith 57 = .ok (.iload 5, 2) := by decide +kernel
theorem dX2_beginWith_59 : decode cX2_beginWith 59 = .ok (.iastore, 1) := by decide +kernel
theorem dX2_beginWith_60 : decode cX2_beginWith 60 = .ok (.iinc 4 1, 3) := by decide +kernel
theorem dX2_beginWith_63 : decode cX2_beginWith 63 = .ok (.goto (-56), 3) := by decide +kernel
theorem dX2_beginWith_66 : decode cX2_beginWith 66 = .ok (.aload_n 0, 1) := by decide +kernel
theorem dX2_beginWith_67 : decode cX2_beginWith 67 = .ok (.iload_n 1, 1) := by decide +kernel
theorem dX2_beginWith_68 : decode cX2_beginWith 68 = .ok (.putfield 51, 3) := by decide +kernel
theorem dX2_beginWith_71 : decode cX2_beginWith 71 = .ok (.iload_n 1, 1) := by decide +kernel
theorem dX2_beginWith_72 : decode cX2_beginWith 72 = .ok (.ireturn, 1) := by decide +kernel
theorem dX2_standsAt_0 : decode cX2_standsAt 0 = .ok (.iconst 0, 1) := by decide +kernel
theorem dX2_standsAt_1 : decode cX2_standsAt 1 = .ok (.istore_n 3, 1) := by decide +kernel
theorem dX2_standsAt_2 : decode cX2_standsAt 2 = .ok (.iload_n 3, 1) := by decide +kernel
theorem dX2_standsAt_3 : decode cX2_standsAt 3 = .ok (.aload_n 0, 1) := by decide +kernel
theorem dX2_standsAt_4 : decode cX2_standsAt 4 = .ok (.getfield 51, 3) := by decide +kernel
theorem dX2_standsAt_7 : decode cX2_standsAt 7 = .ok (.if_icmp .ge 23, 3) := by decide +kernel
theorem dX2_standsAt_10 : decode cX2_standsAt 10 = .ok (.aload_n 2, 1) := by decide +kernel
theorem dX2_standsAt_11 : decode cX2_standsAt 11 = .ok (.aload_n 0, 1) := by decide +kernel
theorem dX2_standsAt_12 : decode cX2_standsAt 12 = .ok (.getfield 31, 3) := by decide +kernel
theorem dX2_standsAt_15 : decode cX2_standsAt 15 = .ok (.iload_n 3, 1) := by decide +kernel
theorem dX2_standsAt_16 : decode cX2_standsAt 16 = .ok (.iaload, 1) := by decide +kernel
theorem dX2_standsAt_17 : decode cX2_standsAt 17 = .ok (.iaload, 1) := by decide +kernel
theorem dX2_standsAt_18 : decode cX2_standsAt 18 = .ok (.iload_n 1, 1) := by decide +kernel
theorem dX2_standsAt_19 : decode cX2_standsAt 19 = .ok (.if_icmp .eq 5, 3) := by decide +kernel
theorem dX2_standsAt_22 : decode cX2_standsAt 22 = .ok (.iconst 0, 1) := by decide +kernel
theorem dX2_standsAt_23 : decode cX2_standsAt 23 = .ok (.ireturn, 1) := by decide +kernel
theorem dX2_standsAt_24 : decode cX2_standsAt 24 = .ok (.iinc 3 1, 3) := by decide +kernel
theorem dX2_standsAt_27 : decode cX2_standsAt 27 = .ok (.goto (-25), 3) := by decide +kernel
theorem dX2_standsAt_30 : decode cX2_standsAt 30 = .ok (.iconst 1, 1) := by decide +kernel
theorem dX2_standsAt_31 : decode cX2_standsAt 31 = .ok (.ireturn, 1) := by decide +kernel
set_option maxRecDepth 20000 in
theorem ggX2_goOn_X0_byWeights : GoodIn wsX2_goOn wsX0_byWeights := goodIn_ca (goodIn_r _ [15, 16, 17, 18, 19, 20, 21, 22, 14, 23, 24, 25, 26, 27, 28, 29, 30, 31, 32, 33, 34, 35, 36, 55, 56, 57, 58] (by decide +kernel) (by decide +kernel)) (goodIn_sub (fun _ h => List.mem_cons_of_mem _ (List.mem_append_right _ h)) (by decide +kernel))
set_option maxRecDepth 20000 in
theorem gX2_goOn_X0_byWeights : GoodIn wsX2_goOn (wsV RX2 67 RX0 yX0_byWeights wsX0_byWeights) := goodIn_app (goodIn_of _ (by decide +kernel)) ggX2_goOn_X0_byWeights
set_option maxRecDepth 20000 in
theorem ggX2_goOn_X2_takeNextStatesAndWeights : GoodIn wsX2_goOn wsX2_takeNextStatesAndWeights := goodIn_r _ [41, 2, 4, 6, 5, 42, 43, 44, 45, 46, 47, 48, 49, 50, 51, 52, 53, 54] (by decide +kernel) (by decide +kernel)
set_option maxRecDepth 20000 in
theorem gX2_goOn_X2_takeNextStatesAndWeights : GoodIn wsX2_goOn (wsV RX2 76 RX2 yX2_takeNextStatesAndWeights wsX2_takeNextStatesAndWeights) := goodIn_app (goodIn_of _ (by decide +kernel)) ggX2_goOn_X2_takeNextStatesAndWeights
theorem dX2_goOn_0 : decode cX2_goOn 0 = .ok (.iconst 0, 1) := by decide +kernel
theorem dX2_goOn_1 : decode cX2_goOn 1 = .ok (.istore 4, 2) := by decide +kernel
theorem dX2_goOn_3 : decode cX2_goOn 3 = .ok (.iload 4, 2) := by decide +kernel
theorem dX2_goOn_5 : decode cX2_goOn 5 = .ok (.aload_n 0, 1) := by decide +kernel
theorem dX2_goOn_6 : decode cX2_goOn 6 = .ok (.getfield 51, 3) := by decide +kernel
theorem dX2_goOn_9 : decode cX2_goOn 9 = .ok (.if_icmp .ge 45, 3) := by decide +kernel
theorem dX2_goOn_12 : decode cX2_goOn 12 = .ok (.aload_n 3, 1) := by decide +kernel
theorem dX2_goOn_13 : decode cX2_goOn 13 = .ok (.aload_n 1, 1) := by decide +kernel
theorem dX2_goOn_14 : decode cX2_goOn 14 = .ok (.aload_n 0, 1) := by decide +kernel
theorem dX2_goOn_15 : decode cX2_goOn 15 = .ok (.getfield 31, 3) := by decide +kernel
theorem dX2_goOn_18 : decode cX2_goOn 18 = .ok (.iload 4, 2) := by decide +kernel
theorem dX2_goOn_20 : decode cX2_goOn 20 = .ok (.iaload, 1) := by decide +kernel
theorem dX2_goOn_21 : decode cX2_goOn 21 = .ok (.aaload, 1) := by decide +kernel
theorem dX2_goOn_22 : decode cX2_goOn 22 = .ok (.bipush 6, 2) := by decide +kernel
theorem dX2_goOn_24 : decode cX2_goOn 24 = .ok (.invokevirtual 67, 3) := by decide +kernel
theorem dX2_goOn_27 : decode cX2_goOn 27 = .ok (.istore 5, 2) := by decide +kernel
theorem dX2_goOn_29 : decode cX2_goOn 29 = .ok (.iload 5, 2) := by decide +kernel
theorem dX2_goOn_31 : decode cX2_goOn 31 = .ok (.ldc 73, 2) := by decide +kernel
theorem dX2_goOn_33 : decode cX2_goOn 33 = .ok (.if_icmp .ne 6, 3) := by decide +kernel
theorem dX2_goOn_36 : decode cX2_goOn 36 = .ok (.ldc 73, 2) := by decide +kernel
theorem dX2_goOn_38 : decode cX2_goOn 38 = .ok (.ireturn, 1) := by decide +kernel
theorem dX2_goOn_39 : decode cX2_goOn 39 = .ok (.aload_n 0, 1) := by decide +kernel
theorem dX2_goOn_40 : decode cX2_goOn 40 = .ok (.getfield 42, 3) := by decide +kernel
theorem dX2_goOn_43 : decode cX2_goOn 43 = .ok (.iload 4, 2) := by decide +kernel
theorem dX2_goOn_45 : decode cX2_goOn 45 = .ok (.iload 5, 2) := by decide +kernel
theorem dX2_goOn_47 : decode cX2_goOn 47 = .ok (.iastore, 1) := by decide +kernel
theorem dX2_goOn_48 : decode cX2_goOn 48 = .ok (.iinc 4 1, 3) := by decide +kernel
theorem dX2_goOn_51 : decode cX2_goOn 51 = .ok (.goto (-48), 3) := by decide +kernel
theorem dX2_goOn_54 : decode cX2_goOn 54 = .ok (.iconst 0, 1) := by decide +kernel
theorem dX2_goOn_55 : decode cX2_goOn 55 = .ok (.istore 4, 2) := by decide +kernel
theorem dX2_goOn_57 : decode cX2_goOn 57 = .ok (.iload 4, 2) := by decide +kernel
theorem dX2_goOn_59 : decode cX2_goOn 59 = .ok (.aload_n 0, 1) := by decide +kernel
theorem dX2_goOn_60 : decode cX2_goOn 60 = .ok (.getfield 51, 3) := by decide +kernel
theorem dX2_goOn_63 : decode cX2_goOn 63 = .ok (.if_icmp .ge 48, 3) := by decide +kernel
theorem dX2_goOn_66 : decode cX2_goOn 66 = .ok (.aload_n 0, 1) := by decide +kernel
theorem dX2_goOn_67 : decode cX2_goOn 67 = .ok (.getfield 45, 3) := by decide +kernel
theorem dX2_goOn_70 : decode cX2_goOn 70 = .ok (.iload 4, 2) := by decide +kernel
theorem dX2_goOn_72 : decode cX2_goOn 72 = .ok (.aload_n 0, 1) := by decide +kernel
theorem dX2_goOn_73 : decode cX2_goOn 73 = .ok (.getfield 34, 3) := by decide +kernel
theorem dX2_goOn_76 : decode cX2_goOn 76 = .ok (.iload 4, 2) := by decide +kernel
theorem dX2_goOn_78 : decode cX2_goOn 78 = .ok (.iaload, 1) := by decide +kernel
theorem dX2_goOn_79 : decode cX2_goOn 79 = .ok (.aload_n 2, 1) := by decide +kernel
theorem dX2_goOn_80 : decode cX2_goOn 80 = .ok (.aload_n 0, 1) := by decide +kernel
theorem dX2_goOn_81 : decode cX2_goOn 81 = .ok (.getfield 42, 3) := by decide +kernel
theorem dX2_goOn_84 : decode cX2_goOn 84 = .ok (.iload 4, 2) := by decide +kernel
theorem dX2_goOn_86 : decode cX2_goOn 86 = .ok (.iaload, 1) := by decide +kernel
theorem dX2_goOn_87 : decode cX2_goOn 87 = .ok (.iaload, 1) := by decide +kernel
theorem dX2_goOn_88 : decode cX2_goOn 88 = .ok (.imul, 1) := by decide +kernel
theorem dX2_goOn_89 : decode cX2_goOn 89 = .ok (.iastore, 1) := by decide +kernel
theorem dX2_goOn_90 : decode cX2_goOn 90 = .ok (.aload_n 0, 1) := by decide +kernel
theorem dX2_goOn_91 : decode cX2_goOn 91 = .ok (.getfield 45, 3) := by decide +kernel
theorem dX2_goOn_94 : decode cX2_goOn 94 = .ok (.iload 4, 2) := by decide +kernel
theorem dX2_goOn_96 : decode cX2_goOn 96 = .ok (.iaload, 1) := by decide +kernel
theorem dX2_goOn_97 : decode cX2_goOn 97 = .ok (.ldc 74, 2) := by decide +kernel
theorem dX2_goOn_99 : decode cX2_goOn 99 = .ok (.if_icmp .le 6, 3) := by decide +kernel
theorem dX2_goOn_102 : decode cX2_goOn 102 = .ok (.ldc 75, 2) := by decide +kernel
theorem dX2_goOn_104 : decode cX2_goOn 104 = .ok (.ireturn, 1) := by decide +kernel
theorem dX2_goOn_105 : decode cX2_goOn 105 = .ok (.iinc 4 1, 3) := by decide +kernel
theorem dX2_goOn_108 : decode cX2_goOn 108 = .ok (.goto (-51), 3) := by decide +kernel
theorem dX2_goOn_111 : decode cX2_goOn 111 = .ok (.aload_n 0, 1) := by decide +kernel
theorem dX2_goOn_112 : decode cX2_goOn 112 = .ok (.invokevirtual 76, 3) := by decide +kernel
theorem dX2_goOn_115 : decode cX2_goOn 115 = .ok (.aload_n 0, 1) := by decide +kernel
theorem dX2_goOn_116 : decode cX2_goOn 116 = .ok (.dup, 1) := by decide +kernel
theorem dX2_goOn_117 : decode cX2_goOn 117 = .ok (.getfield 54, 3) := by decide +kernel
theorem dX2_goOn_120 : decode cX2_goOn 120 = .ok (.iconst 1, 1) := by decide +kernel
theorem dX2_goOn_121 : decode cX2_goOn 121 = .ok (.iadd, 1) := by decide +kernel
theorem dX2_goOn_122 : decode cX2_goOn 122 = .ok (.putfield 54, 3) := by decide +kernel
theorem dX2_goOn_125 : decode cX2_goOn 125 = .ok (.iconst 0, 1) := by decide +kernel
theorem dX2_goOn_126 : decode cX2_goOn 126 = .ok (.istore 4, 2) := by decide +kernel
theorem dX2_goOn_128 : decode cX2_goOn 128 = .ok (.iload 4, 2) := by decide +kernel
theorem dX2_goOn_130 : decode cX2_goOn 130 = .ok (.aload_n 0, 1) := by decide +kernel
theorem dX2_goOn_131 : decode cX2_goOn 131 = .ok (.getfield 51, 3) := by decide +kernel
theorem dX2_goOn_134 : decode cX2_goOn 134 = .ok (.if_icmp .ge 28, 3) := by decide +kernel
theorem dX2_goOn_137 : decode cX2_goOn 137 = .ok (.aload_n 0, 1) := by decide +kernel
theorem dX2_goOn_138 : decode cX2_goOn 138 = .ok (.getfield 39, 3) := by decide +kernel
theorem dX2_goOn_141 : decode cX2_goOn 141 = .ok (.iload 4, 2) := by decide +kernel
theorem dX2_goOn_143 : decode cX2_goOn 143 = .ok (.aaload, 1) := by decide +kernel
theorem dX2_goOn_144 : decode cX2_goOn 144 = .ok (.aload_n 0, 1) := by decide +kernel
theorem dX2_goOn_145 : decode cX2_goOn 145 = .ok (.getfield 54, 3) := by decide +kernel
theorem dX2_goOn_148 : decode cX2_goOn 148 = .ok (.aload_n 0, 1) := by decide +kernel
theorem dX2_goOn_149 : decode cX2_goOn 149 = .ok (.getfield 31, 3) := by decide +kernel
theorem dX2_goOn_152 : decode cX2_goOn 152 = .ok (.iload 4, 2) := by decide +kernel
theorem dX2_goOn_154 : decode cX2_goOn 154 = .ok (.iaload, 1) := by decide +kernel
theorem dX2_goOn_155 : decode cX2_goOn 155 = .ok (.iastore, 1) := by decide +kernel
theorem dX2_goOn_156 : decode cX2_goOn 156 = .ok (.iinc 4 1, 3) := by decide +kernel
theorem dX2_goOn_159 : decode cX2_goOn 159 = .ok (.goto (-31), 3) := by decide +kernel
theorem dX2_goOn_162 : decode cX2_goOn 162 = .ok (.aload_n 0, 1) := by decide +kernel
theorem dX2_goOn_163 : decode cX2_goOn 163 = .ok (.getfield 54, 3) := by decide +kernel
theorem dX2_goOn_166 : decode cX2_goOn 166 = .ok (.ireturn, 1) := by decide +kernel
theorem dX2_takeNextStatesAndWeights_0 : decode cX2_takeNextStatesAndWeights 0 = .ok (.aload_n 0, 1) := by decide +kernel
theorem dX2_takeNextStatesAndWeights_1 : decode cX2_takeNextStatesAndWeights 1 = .ok (.getfield 31, 3) := by decide +kernel
theorem dX2_takeNextStatesAndWeights_4 : decode cX2_takeNextStatesAndWeights 4 = .ok (.astore_n 1, 1) := by decide +kernel
theorem dX2_takeNextStatesAndWeights_5 : decode cX2_takeNextStatesAndWeights 5 = .ok (.aload_n 0, 1) := by decide +kernel
theorem dX2_takeNextStatesAndWeights_6 : decode cX2_takeNextStatesAndWeights 6 = .ok (.aload_n 0, 1) := by decide +kernel
theorem dX2_takeNextStatesAndWeights_7 : decode cX2_takeNextStatesAndWeights 7 = .ok (.getfield 42, 3) := by decide +kernel
theorem dX2_takeNextStatesAndWeights_10 : decode cX2_takeNextStatesAndWeights 10 = .ok (.putfield 31, 3) := by decide +kernel
theorem dX2_takeNextStatesAndWeights_13 : decode cX2_takeNextStatesAndWeights 13 = .ok (.aload_n 0, 1) := by decide +kernel
theorem dX2_takeNextStatesAndWeights_14 : decode cX2_takeNextStatesAndWeights 14 = .ok (.aload_n 1, 1) := by decide +kernel
theorem dX2_takeNextStatesAndWeights_15 : decode cX2_takeNextStatesAndWeights 15 = .ok (.putfield 42, 3) := by decide +kernel
theorem dX2_takeNextStatesAndWeights_18 : decode cX2_takeNextStatesAndWeights 18 = .ok (.aload_n 0, 1) := by decide +kernel
theorem dX2_takeNextStatesAndWeights_19 : decode cX2_takeNextStatesAndWeights 19 = .ok (.getfield 34, 3) := by decide +kernel
theorem dX2_takeNextStatesAndWeights_22 : decode cX2_takeNextStatesAndWeights 22 = .ok (.astore_n 2, 1) := by decide +kernel
theorem dX2_takeNextStatesAndWeights_23 : decode cX2_takeNextStatesAndWeights 23 = .ok (.aload_n 0, 1) := by decide +kernel
theorem dX2_takeNextStatesAndWeights_24 : decode cX2_takeNextStatesAndWeights 24 = .ok (.aload_n 0, 1) := by decide +kernel
theorem dX2_takeNextStatesAndWeights_25 : decode cX2_takeNextStatesAndWeights 25 = .ok (.getfield 45, 3) := by decide +kernel
theorem dX2_takeNextStatesAndWeights_28 : decode cX2_takeNextStatesAndWeights 28 = .ok (.putfield 34, 3) := by decide +kernel
theorem dX2_takeNextStatesAndWeights_31 : decode cX2_takeNextStatesAndWeights 31 = .ok (.aload_n 0, 1) := by decide +kernel
theorem dX2_takeNextStatesAndWeights_32 : decode cX2_takeNextStatesAndWeights 32 = .ok (.aload_n 2, 1) := by decide +kernel
theorem dX2_takeNextStatesAndWeights_33 : decode cX2_takeNextStatesAndWeights 33 = .ok (.putfield 45, 3) := by decide +kernel
theorem dX2_takeNextStatesAndWeights_36 : decode cX2_takeNextStatesAndWeights 36 = .ok (.return_, 1) := by decide +kernel
set_option maxRecDepth 20000 in
theorem ggX2_total_X4_sumOf : GoodIn wsX2_total wsX4_sumOf := goodIn_ca (goodIn_r _ [5] (by decide +kernel) (by decide +kernel)) (goodIn_sub (fun _ h => List.mem_cons_of_mem _ (List.mem_append_right _ h)) (by decide +kernel))
set_option maxRecDepth 20000 in
theorem gX2_total_X4_sumOf_n79 : GoodIn wsX2_total (wsX4_sumOf) := ggX2_total_X4_sumOf
theorem dX2_total_0 : decode cX2_total 0 = .ok (.aload_n 0, 1) := by decide +kernel
theorem dX2_total_1 : decode cX2_total 1 = .ok (.getfield 34, 3) := by decide +kernel
theorem dX2_total_4 : decode cX2_total 4 = .ok (.aload_n 0, 1) := by decide +kernel
theorem dX2_total_5 : decode cX2_total 5 = .ok (.getfield 51, 3) := by decide +kernel
theorem dX2_total_8 : decode cX2_total 8 = .ok (.invokestatic 79, 3) := by decide +kernel
theorem dX2_total_11 : decode cX2_total 11 = .ok (.lreturn, 1) := by decide +kernel
theorem dX2_squares_0 : decode cX2_squares 0 = .ok (.lconst 0, 1) := by decide +kernel
theorem dX2_squares_1 : decode cX2_squares 1 = .ok (.lstore_n 1, 1) := by decide +kernel
theorem dX2_squares_2 : decode cX2_squares 2 = .ok (.iconst 0, 1) := by decide +kernel
theorem dX2_squares_3 : decode cX2_squares 3 = .ok (.istore_n 3, 1) := by decide +kernel
theorem dX2_squares_4 : decode cX2_squares 4 = .ok (.iload_n 3, 1) := by decide +kernel
theorem dX2_squares_5 : decode cX2_squares 5 = .ok (.aload_n 0, 1) := by decide +kernel
theorem dX2_squares_6 : decode cX2_squares 6 = .ok (.getfield 51, 3) := by decide +kernel
theorem dX2_squares_9 : decode cX2_squares 9 = .ok (.if_icmp .ge 27, 3) := by decide +kernel
theorem dX2_squares_12 : decode cX2_squares 12 = .ok (.lload_n 1, 1) := by decide +kernel
theorem dX2_squares_13 : decode cX2_squares 13 = .ok (.aload_n 0, 1) := by decide +kernel
theorem dX2_squares_14 : decode cX2_squares 14 = .ok (.getfield 34, 3) := by decide +kernel
theorem dX2_squares_17 : decode cX2_squares 17 = .ok (.iload_n 3, 1) := by decide +kernel
theorem dX2_squares_18 : decode cX2_squares 18 = .ok (.iaload, 1) := by decide +kernel
theorem dX2_squares_19 : decode cX2_squares 19 = .ok (.i2l, 1) := by decide +kernel
theorem dX2_squares_20 : decode cX2_squares 20 = .ok (.aload_n 0, 1) := by decide +kernel
theorem dX2_squares_21 : decode cX2_squares 21 = .ok (.getfield 34, 3) := by decide +kernel
theorem dX2_squares_24 : decode cX2_squares 24 = .ok (.iload_n 3, 1) := by decide +kernel
theorem dX2_squares_25 : decode cX2_squares 25 = .ok (.iaload, 1) := by decide +kernel
theorem dX2_squares_26 : decode cX2_squares 26 = .ok (.i2l, 1) := by decide +kernel
theorem dX2_squares_27 : decode cX2_squares 27 = .ok (.lmul, 1) := by decide +kernel
theorem dX2_squares_28 : decode cX2_squares 28 = .ok (.ladd, 1) := by decide +kernel
theorem dX2_squares_29 : decode cX2_squares 29 = .ok (.lstore_n 1, 1) := by decide +kernel
theorem dX2_squares_30 : decode cX2_squares 30 = .ok (.iinc 3 1, 3) := by decide +kernel
theorem dX2_squares_33 : decode cX2_squares 33 = .ok (.goto (-29), 3) := by decide +kernel
theorem dX2_squares_36 : decode cX2_squares 36 = .ok (.lload_n 1, 1) := by decide +kernel
theorem dX2_squares_37 : decode cX2_squares 37 = .ok (.lreturn, 1) := by decide +kernel
set_option maxRecDepth 20000 in
theorem ggX2_effective_X2_squares : GoodIn wsX2_effective wsX2_squares := goodIn_ca (goodIn_r _ [5, 6, 7, 15, 16, 17, 18, 19, 20, 21, 22, 23, 24, 25, 26, 27] (by decide +kernel) (by decide +kernel)) (goodIn_sub (fun _ h => List.mem_cons_of_mem _ (List.mem_append_right _ h)) (by decide +kernel))
set_option maxRecDepth 20000 in
theorem gX2_effective_X2_squares : GoodIn wsX2_effective (wsV RX2 83 RX2 yX2_squares wsX2_squares) := goodIn_app (goodIn_of _ (by decide +kernel)) ggX2_effective_X2_squares
set_option maxRecDepth 20000 in
theorem ggX2_effective_X2_total : GoodIn wsX2_effective wsX2_total := goodIn_ca (goodIn_r _ [11, 7, 6, 12, 13, 14, 15, 16, 17, 18, 19, 20, 21, 22, 23, 24, 25, 26, 27] (by decide +kernel) (by decide +kernel)) (goodIn_sub (fun _ h => List.mem_cons_of_mem _ (List.mem_append_right _ h)) (by decide +kernel))
set_option maxRecDepth 20000 in
theorem gX2_effective_X2_total : GoodIn wsX2_effective (wsV RX2 87 RX2 yX2_total wsX2_total) := goodIn_app (goodIn_of _ (by decide +kernel)) ggX2_effective_X2_total
theorem dX2_effective_0 : decode cX2_effective 0 = .ok (.aload_n 0, 1) := by decide +kernel
theorem dX2_effective_1 : decode cX2_effective 1 = .ok (.invokevirtual 83, 3) := by decide +kernel
theorem dX2_effective_4 : decode cX2_effective 4 = .ok (.lstore_n 1, 1) := by decide +kernel
theorem dX2_effective_5 : decode cX2_effective 5 = .ok (.lload_n 1, 1) := by decide +kernel
theorem dX2_effective_6 : decode cX2_effective 6 = .ok (.lconst 0, 1) := by decide +kernel
theorem dX2_effective_7 : decode cX2_effective 7 = .ok (.lcmp, 1) := by decide +kernel
theorem dX2_effective_8 : decode cX2_effective 8 = .ok (.ifCond .ne 7, 3) := by decide +kernel
theorem dX2_effective_11 : decode cX2_effective 11 = .ok (.lconst 0, 1) := by decide +kernel
theorem dX2_effective_12 : decode cX2_effective 12 = .ok (.goto 14, 3) := by decide +kernel
theorem dX2_effective_15 : decode cX2_effective 15 = .ok (.aload_n 0, 1) := by decide +kernel
theorem dX2_effective_16 : decode cX2_effective 16 = .ok (.invokevirtual 87, 3) := by decide +kernel
theorem dX2_effective_19 : decode cX2_effective 19 = .ok (.aload_n 0, 1) := by decide +kernel
theorem dX2_effective_20 : decode cX2_effective 20 = .ok (.invokevirtual 87, 3) := by decide +kernel
theorem dX2_effective_23 : decode cX2_effective 23 = .ok (.lmul, 1) := by decide +kernel
theorem dX2_effective_24 : decode cX2_effective 24 = .ok (.lload_n 1, 1) := by decide +kernel
theorem dX2_effective_25 : decode cX2_effective 25 = .ok (.ldiv, 1) := by decide +kernel
theorem dX2_effective_26 : decode cX2_effective 26 = .ok (.lreturn, 1) := by decide +kernel
set_option maxRecDepth 20000 in
theorem ggX2_isEffectiveBelow_X2_total : GoodIn wsX2_isEffectiveBelow wsX2_total := goodIn_ca (goodIn_r _ [7, 8, 2, 9, 10, 11, 16, 17, 18, 19, 20, 21, 22, 23, 24, 25, 26, 27, 28] (by decide +kernel) (by decide +kernel)) (goodIn_sub (fun _ h => List.mem_cons_of_mem _ (List.mem_append_right _ h)) (by decide +kernel))
set_option maxRecDepth 20000 in
theorem gX2_isEffectiveBelow_X2_total : GoodIn wsX2_isEffectiveBelow (wsV RX2 87 RX2 yX2_total wsX2_total) := goodIn_app (goodIn_of _ (by decide +kernel)) ggX2_isEffectiveBelow_X2_total
set_option maxRecDepth 20000 in
theorem ggX2_isEffectiveBelow_X2_squares : GoodIn wsX2_isEffectiveBelow wsX2_squares := goodIn_ca (goodIn_r _ [15, 2, 8, 16, 17, 18, 19, 20, 21, 22, 23, 24, 25, 26, 27, 28] (by decide +kernel) (by decide +kernel)) (goodIn_sub (fun _ h => List.mem_cons_of_mem _ (List.mem_append_right _ h)) (by decide +kernel))
set_option maxRecDepth 20000 in
theorem gX2_isEffectiveBelow_X2_squares : GoodIn wsX2_isEffectiveBelow (wsV RX2 83 RX2 yX2_squares wsX2_squares) := goodIn_app (goodIn_of _ (by decide +kernel)) ggX2_isEffectiveBelow_X2_squares
theorem dX2_isEffectiveBelow_0 : decode cX2_isEffectiveBelow 0 = .ok (.ldc2_w 90, 3) := by decide +kernel
theorem dX2_isEffectiveBelow_3 : decode cX2_isEffectiveBelow 3 = .ok (.aload_n 0, 1) := by decide +kernel
theorem dX2_isEffectiveBelow_4 : decode cX2_isEffectiveBelow 4 = .ok (.invokevirtual 87, 3) := by decide +kernel
theorem dX2_isEffectiveBelow_7 : decode cX2_isEffectiveBelow 7 = .ok (.lmul, 1) := by decide +kernel
theorem dX2_isEffectiveBelow_8 : decode cX2_isEffectiveBelow 8 = .ok (.aload_n 0, 1) := by decide +kernel
theorem dX2_isEffectiveBelow_9 : decode cX2_isEffectiveBelow 9 = .ok (.invokevirtual 87, 3) := by decide +kernel
theorem dX2_isEffectiveBelow_12 : decode cX2_isEffectiveBelow 12 = .ok (.lmul, 1) := by decide +kernel
theorem dX2_isEffectiveBelow_13 : decode cX2_isEffectiveBelow 13 = .ok (.iload_n 1, 1) := by decide +kernel
theorem dX2_isEffectiveBelow_14 : decode cX2_isEffectiveBelow 14 = .ok (.aload_n 0, 1) := by decide +kernel
theorem dX2_isEffectiveBelow_15 : decode cX2_isEffectiveBelow 15 = .ok (.getfield 51, 3) := by decide +kernel
theorem dX2_isEffectiveBelow_18 : decode cX2_isEffectiveBelow 18 = .ok (.imul, 1) := by decide +kernel
theorem dX2_isEffectiveBelow_19 : decode cX2_isEffectiveBelow 19 = .ok (.i2l, 1) := by decide +kernel
theorem dX2_isEffectiveBelow_20 : decode cX2_isEffectiveBelow 20 = .ok (.aload_n 0, 1) := by decide +kernel
theorem dX2_isEffectiveBelow_21 : decode cX2_isEffectiveBelow 21 = .ok (.invokevirtual 83, 3) := by decide +kernel
theorem dX2_isEffectiveBelow_24 : decode cX2_isEffectiveBelow 24 = .ok (.lmul, 1) := by decide +kernel
theorem dX2_isEffectiveBelow_25 : decode cX2_isEffectiveBelow 25 = .ok (.lcmp, 1) := by decide +kernel
theorem dX2_isEffectiveBelow_26 : decode cX2_isEffectiveBelow 26 = .ok (.ifCond .ge 7, 3) := by decide +kernel
theorem dX2_isEffectiveBelow_29 : decode cX2_isEffectiveBelow 29 = .ok (.iconst 1, 1) := by decide +kernel
theorem dX2_isEffectiveBelow_30 : decode cX2_isEffectiveBelow 30 = .ok (.goto 4, 3) := by decide +kernel
theorem dX2_isEffectiveBelow_33 : decode cX2_isEffectiveBelow 33 = .ok (.iconst 0, 1) := by decide +kernel
theorem dX2_isEffectiveBelow_34 : decode cX2_isEffectiveBelow 34 = .ok (.ireturn, 1) := by decide +kernel
set_option maxRecDepth 20000 in
theorem ggX2_evidenceSoFar_X2_total : GoodIn wsX2_evidenceSoFar wsX2_total := goodIn_ca (goodIn_r _ [7, 8, 2, 9, 10, 11, 12, 13, 14, 15, 16, 17, 18, 19, 20, 21, 22, 23, 24] (by decide +kernel) (by decide +kernel)) (goodIn_sub (fun _ h => List.mem_cons_of_mem _ (List.mem_append_right _ h)) (by decide +kernel))
set_option maxRecDepth 20000 in
theorem gX2_evidenceSoFar_X2_total : GoodIn wsX2_evidenceSoFar (wsV RX2 87 RX2 yX2_total wsX2_total) := goodIn_app (goodIn_of _ (by decide +kernel)) ggX2_evidenceSoFar_X2_total
theorem dX2_evidenceSoFar_0 : decode cX2_evidenceSoFar 0 = .ok (.aload_n 0, 1) := by decide +kernel
theorem dX2_evidenceSoFar_1 : decode cX2_evidenceSoFar 1 = .ok (.getfield 27, 3) := by decide +kernel
theorem dX2_evidenceSoFar_4 : decode cX2_evidenceSoFar 4 = .ok (.aload_n 0, 1) := by decide +kernel
theorem dX2_evidenceSoFar_5 : decode cX2_evidenceSoFar 5 = .ok (.invokevirtual 87, 3) := by decide +kernel
theorem dX2_evidenceSoFar_8 : decode cX2_evidenceSoFar 8 = .ok (.l2d, 1) := by decide +kernel
theorem dX2_evidenceSoFar_9 : decode cX2_evidenceSoFar 9 = .ok (.aload_n 0, 1) := by decide +kernel
theorem dX2_evidenceSoFar_10 : decode cX2_evidenceSoFar 10 = .ok (.getfield 51, 3) := by decide +kernel
theorem dX2_evidenceSoFar_13 : decode cX2_evidenceSoFar 13 = .ok (.i2d, 1) := by decide +kernel
theorem dX2_evidenceSoFar_14 : decode cX2_evidenceSoFar 14 = .ok (.ddiv, 1) := by decide +kernel
theorem dX2_evidenceSoFar_15 : decode cX2_evidenceSoFar 15 = .ok (.dmul, 1) := by decide +kernel
theorem dX2_evidenceSoFar_16 : decode cX2_evidenceSoFar 16 = .ok (.dreturn, 1) := by decide +kernel
set_option maxRecDepth 20000 in
theorem ggX2_drawAnew_X2_total : GoodIn wsX2_drawAnew wsX2_total := goodIn_ca (goodIn_r _ [13, 14, 5, 15, 16, 17, 124, 125, 126, 127, 128, 129, 130, 131, 132, 133, 134, 135, 136] (by decide +kernel) (by decide +kernel)) (goodIn_sub (fun _ h => List.mem_cons_of_mem _ (List.mem_append_right _ h)) (by decide +kernel))
set_option maxRecDepth 20000 in
theorem gX2_drawAnew_X2_total : GoodIn wsX2_drawAnew (wsV RX2 87 RX2 yX2_total wsX2_total) := goodIn_app (goodIn_of _ (by decide +kernel)) ggX2_drawAnew_X2_total
set_option maxRecDepth 20000 in
theorem ggX2_drawAnew_X2_evidenceSoFar : GoodIn wsX2_drawAnew wsX2_evidenceSoFar := goodIn_ca (goodIn_r _ [21, 2, 5, 9, 10, 11, 12, 13, 14, 15, 16, 17, 124, 125, 126, 127, 128, 129, 130, 131, 132, 133, 134, 135, 136] (by decide +kernel) (by decide +kernel)) (goodIn_sub (fun _ h => List.mem_cons_of_mem _ (List.mem_append_right _ h)) (by decide +kernel))
set_option maxRecDepth 20000 in
theorem gX2_drawAnew_X2_evidenceSoFar : GoodIn wsX2_drawAnew (wsV RX2 92 RX2 yX2_evidenceSoFar wsX2_evidenceSoFar) := goodIn_app (goodIn_of _ (by decide +kernel)) ggX2_drawAnew_X2_evidenceSoFar
set_option maxRecDepth 20000 in
theorem ggX2_drawAnew_X1_pick : GoodIn wsX2_drawAnew wsX1_pick := goodIn_ca (goodIn_r _ [26, 27, 28, 29, 30, 31, 32, 33, 34, 35, 36, 25, 37, 38, 39, 40, 41, 42, 43, 44, 45, 46, 47, 48, 49, 50, 51, 52, 53, 15, 16, 17, 54, 55, 56, 57, 58, 59, 60, 61, 62, 63, 64, 65, 66, 67, 68, 69, 70, 71, 72, 73, 74, 75, 10, 11, 12, 13, 14, 5, 76, 77, 78, 79, 80, 81, 82, 83, 84, 85, 86, 87, 88, 89, 137, 138, 124, 125, 126, 127, 128, 129, 130, 131, 132, 133, 134, 135, 136, 139, 140, 141, 142] (by decide +kernel) (by decide +kernel)) (goodIn_sub (fun _ h => List.mem_cons_of_mem _ (List.mem_append_right _ h)) (by decide +kernel))
set_option maxRecDepth 20000 in
theorem gX2_drawAnew_X1_pick : GoodIn wsX2_drawAnew (wsV RX2 96 RX1 yX1_pick wsX1_pick) := goodIn_app (goodIn_of _ (by decide +kernel)) ggX2_drawAnew_X1_pick
set_option maxRecDepth 20000 in
theorem ggX2_drawAnew_X1_putInOrder : GoodIn wsX2_drawAnew wsX1_putInOrder := goodIn_ca (goodIn_r _ [93, 27, 137, 138] (by decide +kernel) (by decide +kernel)) (goodIn_sub (fun _ h => List.mem_cons_of_mem _ (List.mem_append_right _ h)) (by decide +kernel))
set_option maxRecDepth 20000 in
theorem gX2_drawAnew_X1_putInOrder : GoodIn wsX2_drawAnew (wsV RX2 100 RX1 yX1_putInOrder wsX1_putInOrder) := goodIn_app (goodIn_of _ (by decide +kernel)) ggX2_drawAnew_X1_putInOrder
set_option maxRecDepth 20000 in
theorem ggX2_drawAnew_X2_becomePicked : GoodIn wsX2_drawAnew wsX2_becomePicked := goodIn_ca (goodIn_r _ [97, 5, 4, 98, 99, 100, 101, 102, 103, 104, 105, 106, 107, 108, 109, 12, 110, 111, 112, 113, 114, 115, 14, 124, 125, 126, 127, 128, 129, 130, 131, 132, 133, 134, 135, 136] (by decide +kernel) (by decide +kernel)) (goodIn_sub (fun _ h => List.mem_cons_of_mem _ (List.mem_append_right _ h)) (by decide +kernel))
set_option maxRecDepth 20000 in
theorem gX2_drawAnew_X2_becomePicked : GoodIn wsX2_drawAnew (wsV RX2 104 RX2 yX2_becomePicked wsX2_becomePicked) := goodIn_app (goodIn_of _ (by decide +kernel)) ggX2_drawAnew_X2_becomePicked
set_option maxRecDepth 20000 in
theorem ggX2_drawAnew_X2_firstThatWas : GoodIn wsX2_drawAnew wsX2_firstThatWas := goodIn_ca (goodIn_r _ [119, 5, 4, 7, 124, 125, 126, 127, 128, 129, 130, 131, 132, 133, 134, 135, 136] (by decide +kernel) (by decide +kernel)) (goodIn_sub (fun _ h => List.mem_cons_of_mem _ (List.mem_append_right _ h)) (by decide +kernel))
set_option maxRecDepth 20000 in
theorem gX2_drawAnew_X2_firstThatWas : GoodIn wsX2_drawAnew (wsV RX2 107 RX2 yX2_firstThatWas wsX2_firstThatWas) := goodIn_app (goodIn_of _ (by decide +kernel)) ggX2_drawAnew_X2_firstThatWas
set_option maxRecDepth 20000 in
theorem ggX2_drawAnew_X1_unlike : GoodIn wsX2_drawAnew wsX1_unlike := goodIn_ca (goodIn_r _ [123, 27, 137, 138] (by decide +kernel) (by decide +kernel)) (goodIn_sub (fun _ h => List.mem_cons_of_mem _ (List.mem_append_right _ h)) (by decide +kernel))
set_option maxRecDepth 20000 in
theorem gX2_drawAnew_X1_unlike : GoodIn wsX2_drawAnew (wsV RX2 111 RX1 yX1_unlike wsX1_unlike) := goodIn_app (goodIn_of _ (by decide +kernel)) ggX2_drawAnew_X1_unlike
theorem dX2_drawAnew_0 : decode cX2_drawAnew 0 = .ok (.aload_n 0, 1) := by decide +kernel
theorem dX2_drawAnew_1 : decode cX2_drawAnew 1 = .ok (.invokevirtual 87, 3) := by decide +kernel
theorem dX2_drawAnew_4 : decode cX2_drawAnew 4 = .ok (.lconst 0, 1) := by decide +kernel
theorem dX2_drawAnew_5 : decode cX2_drawAnew 5 = .ok (.lcmp, 1) := by decide +kernel
theorem dX2_drawAnew_6 : decode cX2_drawAnew 6 = .ok (.ifCond .ne 6, 3) := by decide +kernel
theorem dX2_drawAnew_9 : decode cX2_drawAnew 9 = .ok (.ldc 73, 2) := by decide +kernel
theorem dX2_drawAnew_11 : decode cX2_drawAnew 11 = .ok (.ireturn, 1) := by decide +kernel
theorem dX2_drawAnew_12 : decode cX2_drawAnew 12 = .ok (.aload_n 0, 1) := by decide +kernel
theorem dX2_drawAnew_13 : decode cX2_drawAnew 13 = .ok (.aload_n 0, 1) := by decide +kernel
theorem dX2_drawAnew_14 : decode cX2_drawAnew 14 = .ok (.invokevirtual 92, 3) := by decide +kernel
theorem dX2_drawAnew_17 : decode cX2_drawAnew 17 = .ok (.putfield 27, 3) := by decide +kernel
theorem dX2_drawAnew_20 : decode cX2_drawAnew 20 = .ok (.aload_n 0, 1) := by decide +kernel
theorem dX2_drawAnew_21 : decode cX2_drawAnew 21 = .ok (.getfield 12, 3) := by decide +kernel
theorem dX2_drawAnew_24 : decode cX2_drawAnew 24 = .ok (.iload_n 1, 1) := by decide +kernel
theorem dX2_drawAnew_25 : decode cX2_drawAnew 25 = .ok (.aload_n 0, 1) := by decide +kernel
theorem dX2_drawAnew_26 : decode cX2_drawAnew 26 = .ok (.aload_n 2, 1) := by decide +kernel
theorem dX2_drawAnew_27 : decode cX2_drawAnew 27 = .ok (.invokevirtual 96, 3) := by decide +kernel
theorem dX2_drawAnew_30 : decode cX2_drawAnew 30 = .ok (.aload_n 0, 1) := by decide +kernel
theorem dX2_drawAnew_31 : decode cX2_drawAnew 31 = .ok (.getfield 12, 3) := by decide +kernel
theorem dX2_drawAnew_34 : decode cX2_drawAnew 34 = .ok (.aload_n 0, 1) := by decide +kernel
theorem dX2_drawAnew_35 : decode cX2_drawAnew 35 = .ok (.getfield 18, 3) := by decide +kernel
theorem dX2_drawAnew_38 : decode cX2_drawAnew 38 = .ok (.aload_n 0, 1) := by decide +kernel
theorem dX2_drawAnew_39 : decode cX2_drawAnew 39 = .ok (.getfield 51, 3) := by decide +kernel
theorem dX2_drawAnew_42 : decode cX2_drawAnew 42 = .ok (.invokevirtual 100, 3) := by decide +kernel
theorem dX2_drawAnew_45 : decode cX2_drawAnew 45 = .ok (.aload_n 0, 1) := by decide +kernel
theorem dX2_drawAnew_46 : decode cX2_drawAnew 46 = .ok (.invokevirtual 104, 3) := by decide +kernel
theorem dX2_drawAnew_49 : decode cX2_drawAnew 49 = .ok (.aload_n 0, 1) := by decide +kernel
theorem dX2_drawAnew_50 : decode cX2_drawAnew 50 = .ok (.getfield 23, 3) := by decide +kernel
theorem dX2_drawAnew_53 : decode cX2_drawAnew 53 = .ok (.ldc 22, 2) := by decide +kernel
theorem dX2_drawAnew_55 : decode cX2_drawAnew 55 = .ok (.if_icmp .eq 15, 3) := by decide +kernel
theorem dX2_drawAnew_58 : decode cX2_drawAnew 58 = .ok (.aload_n 0, 1) := by decide +kernel
theorem dX2_drawAnew_59 : decode cX2_drawAnew 59 = .ok (.aload_n 0, 1) := by decide +kernel
theorem dX2_drawAnew_60 : decode cX2_drawAnew 60 = .ok (.aload_n 0, 1) := by decide +kernel
theorem dX2_drawAnew_61 : decode cX2_drawAnew 61 = .ok (.getfield 23, 3) := by decide +kernel
theorem dX2_drawAnew_64 : decode cX2_drawAnew 64 = .ok (.invokevirtual 107, 3) := by decide +kernel
theorem dX2_drawAnew_67 : decode cX2_drawAnew 67 = .ok (.putfield 23, 3) := by decide +kernel
theorem dX2_drawAnew_70 : decode cX2_drawAnew 70 = .ok (.aload_n 0, 1) := by decide +kernel
theorem dX2_drawAnew_71 : decode cX2_drawAnew 71 = .ok (.dup, 1) := by decide +kernel
theorem dX2_drawAnew_72 : decode cX2_drawAnew 72 = .ok (.getfield 61, 3) := by decide +kernel
theorem dX2_drawAnew_75 : decode cX2_drawAnew 75 = .ok (.iconst 1, 1) := by decide +kernel
theorem dX2_drawAnew_76 : decode cX2_drawAnew 76 = .ok (.iadd, 1) := by decide +kernel
theorem dX2_drawAnew_77 : decode cX2_drawAnew 77 = .ok (.putfield 61, 3) := by decide +kernel
theorem dX2_drawAnew_80 : decode cX2_drawAnew 80 = .ok (.aload_n 0, 1) := by decide +kernel
theorem dX2_drawAnew_81 : decode cX2_drawAnew 81 = .ok (.getfield 12, 3) := by decide +kernel
theorem dX2_drawAnew_84 : decode cX2_drawAnew 84 = .ok (.aload_n 0, 1) := by decide +kernel
theorem dX2_drawAnew_85 : decode cX2_drawAnew 85 = .ok (.getfield 51, 3) := by decide +kernel
theorem dX2_drawAnew_88 : decode cX2_drawAnew 88 = .ok (.invokevirtual 111, 3) := by decide +kernel
theorem dX2_drawAnew_91 : decode cX2_drawAnew 91 = .ok (.ireturn, 1) := by decide +kernel
set_option maxRecDepth 20000 in
theorem ggX2_becomePicked_X2_places : GoodIn wsX2_becomePicked wsX2_places := goodIn_r _ [16, 17, 23, 24, 25, 26, 27, 28, 29, 30, 31, 32, 33, 34, 35] (by decide +kernel) (by decide +kernel)
set_option maxRecDepth 20000 in
theorem gX2_becomePicked_X2_places : GoodIn wsX2_becomePicked (wsV RX2 57 RX2 yX2_places wsX2_places) := goodIn_app (goodIn_of _ (by decide +kernel)) ggX2_becomePicked_X2_places
set_option maxRecDepth 20000 in
theorem ggX2_becomePicked_X2_takeNextStatesAndWeights : GoodIn wsX2_becomePicked wsX2_takeNextStatesAndWeights := goodIn_r _ [21, 4, 3, 22, 5, 23, 24, 25, 26, 27, 28, 29, 30, 31, 32, 33, 34, 35] (by decide +kernel) (by decide +kernel)
set_option maxRecDepth 20000 in
theorem gX2_becomePicked_X2_takeNextStatesAndWeights : GoodIn wsX2_becomePicked (wsV RX2 76 RX2 yX2_takeNextStatesAndWeights wsX2_takeNextStatesAndWeights) := goodIn_app (goodIn_of _ (by decide +kernel)) ggX2_becomePicked_X2_takeNextStatesAndWeights
theorem dX2_becomePicked_0 : decode cX2_becomePicked 0 = .ok (.iconst 0, 1) := by decide +kernel
theorem dX2_becomePicked_1 : decode cX2_becomePicked 1 = .ok (.istore_n 1, 1) := by decide +kernel
theorem dX2_becomePicked_2 : decode cX2_becomePicked 2 = .ok (.iload_n 1, 1) := by decide +kernel
theorem dX2_becomePicked_3 : decode cX2_becomePicked 3 = .ok (.aload_n 0, 1) := by decide +kernel
theorem dX2_becomePicked_4 : decode cX2_becomePicked 4 = .ok (.getfield 51, 3) := by decide +kernel
theorem dX2_becomePicked_7 : decode cX2_becomePicked 7 = .ok (.if_icmp .ge 56, 3) := by decide +kernel
theorem dX2_becomePicked_10 : decode cX2_becomePicked 10 = .ok (.aload_n 0, 1) := by decide +kernel
theorem dX2_becomePicked_11 : decode cX2_becomePicked 11 = .ok (.getfield 18, 3) := by decide +kernel
theorem dX2_becomePicked_14 : decode cX2_becomePicked 14 = .ok (.iload_n 1, 1) := by decide +kernel
theorem dX2_becomePicked_15 : decode cX2_becomePicked 15 = .ok (.iaload, 1) := by decide +kernel
theorem dX2_becomePicked_16 : decode cX2_becomePicked 16 = .ok (.istore_n 2, 1) := by decide +kernel
theorem dX2_becomePicked_17 : decode cX2_becomePicked 17 = .ok (.aload_n 0, 1) := by decide +kernel
theorem dX2_becomePicked_18 : decode cX2_becomePicked 18 = .ok (.getfield 42, 3) := by decide +kernel
theorem dX2_becomePicked_21 : decode cX2_becomePicked 21 = .ok (.iload_n 1, 1) := by decide +kernel
theorem dX2_becomePicked_22 : decode cX2_becomePicked 22 = .ok (.aload_n 0, 1) := by decide +kernel
theorem dX2_becomePicked_23 : decode cX2_becomePicked 23 = .ok (.getfield 31, 3) := by decide +kernel
theorem dX2_becomePicked_26 : decode cX2_becomePicked 26 = .ok (.iload_n 2, 1) := by decide +kernel
theorem dX2_becomePicked_27 : decode cX2_becomePicked 27 = .ok (.iaload, 1) := by decide +kernel
theorem dX2_becomePicked_28 : decode cX2_becomePicked 28 = .ok (.iastore, 1) := by decide +kernel
theorem dX2_becomePicked_29 : decode cX2_becomePicked 29 = .ok (.aload_n 0, 1) := by decide +kernel
theorem dX2_becomePicked_30 : decode cX2_becomePicked 30 = .ok (.getfield 45, 3) := by decide +kernel
theorem dX2_becomePicked_33 : decode cX2_becomePicked 33 = .ok (.iload_n 1, 1) := by decide +kernel
theorem dX2_becomePicked_34 : decode cX2_becomePicked 34 = .ok (.iconst 1, 1) := by decide +kernel
theorem dX2_becomePicked_35 : decode cX2_becomePicked 35 = .ok (.iastore, 1) := by decide +kernel
theorem dX2_becomePicked_36 : decode cX2_becomePicked 36 = .ok (.aload_n 0, 1) := by decide +kernel
theorem dX2_becomePicked_37 : decode cX2_becomePicked 37 = .ok (.getfield 39, 3) := by decide +kernel
theorem dX2_becomePicked_40 : decode cX2_becomePicked 40 = .ok (.iload_n 2, 1) := by decide +kernel
theorem dX2_becomePicked_41 : decode cX2_becomePicked 41 = .ok (.aaload, 1) := by decide +kernel
theorem dX2_becomePicked_42 : decode cX2_becomePicked 42 = .ok (.iconst 0, 1) := by decide +kernel
theorem dX2_becomePicked_43 : decode cX2_becomePicked 43 = .ok (.aload_n 0, 1) := by decide +kernel
theorem dX2_becomePicked_44 : decode cX2_becomePicked 44 = .ok (.getfield 48, 3) := by decide +kernel
theorem dX2_becomePicked_47 : decode cX2_becomePicked 47 = .ok (.iload_n 1, 1) := by decide +kernel
theorem dX2_becomePicked_48 : decode cX2_becomePicked 48 = .ok (.aaload, 1) := by decide +kernel
theorem dX2_becomePicked_49 : decode cX2_becomePicked 49 = .ok (.iconst 0, 1) := by decide +kernel
theorem dX2_becomePicked_50 : decode cX2_becomePicked 50 = .ok (.aload_n 0, 1) := by decide +kernel
theorem dX2_becomePicked_51 : decode cX2_becomePicked 51 = .ok (.invokevirtual 57, 3) := by decide +kernel
theorem dX2_becomePicked_54 : decode cX2_becomePicked 54 = .ok (.invokestatic 114, 3) := by decide +kernel
theorem dX2_becomePicked_57 : decode cX2_becomePicked 57 = .ok (.iinc 1 1, 3) := by decide +kernel
theorem dX2_becomePicked_60 : decode cX2_becomePicked 60 = .ok (.goto (-58), 3) := by decide +kernel
theorem dX2_becomePicked_63 : decode cX2_becomePicked 63 = .ok (.aload_n 0, 1) := by decide +kernel
theorem dX2_becomePicked_64 : decode cX2_becomePicked 64 = .ok (.invokevirtual 76, 3) := by decide +kernel
theorem dX2_becomePicked_67 : decode cX2_becomePicked 67 = .ok (.aload_n 0, 1) := by decide +kernel
theorem dX2_becomePicked_68 : decode cX2_becomePicked 68 = .ok (.getfield 39, 3) := by decide +kernel
theorem dX2_becomePicked_71 : decode cX2_becomePicked 71 = .ok (.astore_n 1, 1) := by decide +kernel
theorem dX2_becomePicked_72 : decode cX2_becomePicked 72 = .ok (.aload_n 0, 1) := by decide +kernel
theorem dX2_becomePicked_73 : decode cX2_becomePicked 73 = .ok (.aload_n 0, 1) := by decide +kernel
theorem dX2_becomePicked_74 : decode cX2_becomePicked 74 = .ok (.getfield 48, 3) := by decide +kernel
theorem dX2_becomePicked_77 : decode cX2_becomePicked 77 = .ok (.putfield 39, 3) := by decide +kernel
theorem dX2_becomePicked_80 : decode cX2_becomePicked 80 = .ok (.aload_n 0, 1) := by decide +kernel
theorem dX2_becomePicked_81 : decode cX2_becomePicked 81 = .ok (.aload_n 1, 1) := by decide +kernel
theorem dX2_becomePicked_82 : decode cX2_becomePicked 82 = .ok (.putfield 48, 3) := by decide +kernel
theorem dX2_becomePicked_85 : decode cX2_becomePicked 85 = .ok (.return_, 1) := by decide +kernel
theorem dX2_firstThatWas_0 : decode cX2_firstThatWas 0 = .ok (.iconst 0, 1) := by decide +kernel
theorem dX2_firstThatWas_1 : decode cX2_firstThatWas 1 = .ok (.istore_n 2, 1) := by decide +kernel
theorem dX2_firstThatWas_2 : decode cX2_firstThatWas 2 = .ok (.iload_n 2, 1) := by decide +kernel
theorem dX2_firstThatWas_3 : decode cX2_firstThatWas 3 = .ok (.aload_n 0, 1) := by decide +kernel
theorem dX2_firstThatWas_4 : decode cX2_firstThatWas 4 = .ok (.getfield 51, 3) := by decide +kernel
theorem dX2_firstThatWas_7 : decode cX2_firstThatWas 7 = .ok (.if_icmp .ge 21, 3) := by decide +kernel
theorem dX2_firstThatWas_10 : decode cX2_firstThatWas 10 = .ok (.aload_n 0, 1) := by decide +kernel
theorem dX2_firstThatWas_11 : decode cX2_firstThatWas 11 = .ok (.getfield 18, 3) := by decide +kernel
theorem dX2_firstThatWas_14 : decode cX2_firstThatWas 14 = .ok (.iload_n 2, 1) := by decide +kernel
theorem dX2_firstThatWas_15 : decode cX2_firstThatWas 15 = .ok (.iaload, 1) := by decide +kernel
theorem dX2_firstThatWas_16 : decode cX2_firstThatWas 16 = .ok (.iload_n 1, 1) := by decide +kernel
theorem dX2_firstThatWas_17 : decode cX2_firstThatWas 17 = .ok (.if_icmp .ne 5, 3) := by decide +kernel
theorem dX2_firstThatWas_20 : decode cX2_firstThatWas 20 = .ok (.iload_n 2, 1) := by decide +kernel
theorem dX2_firstThatWas_21 : decode cX2_firstThatWas 21 = .ok (.ireturn, 1) := by decide +kernel
theorem dX2_firstThatWas_22 : decode cX2_firstThatWas 22 = .ok (.iinc 2 1, 3) := by decide +kernel
theorem dX2_firstThatWas_25 : decode cX2_firstThatWas 25 = .ok (.goto (-23), 3) := by decide +kernel
theorem dX2_firstThatWas_28 : decode cX2_firstThatWas 28 = .ok (.ldc 22, 2) := by decide +kernel
theorem dX2_firstThatWas_30 : decode cX2_firstThatWas 30 = .ok (.ireturn, 1) := by decide +kernel
set_option maxRecDepth 20000 in
theorem ggX3_init_X3_setAsAtFirst : GoodIn wsX3_init wsX3_setAsAtFirst := goodIn_r _ [14, 5, 7, 8, 9, 15, 16, 17, 18, 19, 20, 21, 22] (by decide +kernel) (by decide +kernel)
set_option maxRecDepth 20000 in
theorem gX3_init_X3_setAsAtFirst : GoodIn wsX3_init (wsV RX3 26 RX3 yX3_setAsAtFirst wsX3_setAsAtFirst) := goodIn_app (goodIn_of _ (by decide +kernel)) ggX3_init_X3_setAsAtFirst
theorem dX3_init_0 : decode cX3_init 0 = .ok (.aload_n 0, 1) := by decide +kernel
theorem dX3_init_1 : decode cX3_init 1 = .ok (.invokespecial 3, 3) := by decide +kernel
theorem dX3_init_4 : decode cX3_init 4 = .ok (.aload_n 0, 1) := by decide +kernel
theorem dX3_init_5 : decode cX3_init 5 = .ok (.bipush 6, 2) := by decide +kernel
theorem dX3_init_7 : decode cX3_init 7 = .ok (.newarray .int, 2) := by decide +kernel
theorem dX3_init_9 : decode cX3_init 9 = .ok (.putfield 9, 3) := by decide +kernel
theorem dX3_init_12 : decode cX3_init 12 = .ok (.aload_n 0, 1) := by decide +kernel
theorem dX3_init_13 : decode cX3_init 13 = .ok (.bipush 6, 2) := by decide +kernel
theorem dX3_init_15 : decode cX3_init 15 = .ok (.bipush 6, 2) := by decide +kernel
theorem dX3_init_17 : decode cX3_init 17 = .ok (.multianewarray 15 2, 4) := by decide +kernel
theorem dX3_init_21 : decode cX3_init 21 = .ok (.putfield 17, 3) := by decide +kernel
theorem dX3_init_24 : decode cX3_init 24 = .ok (.aload_n 0, 1) := by decide +kernel
theorem dX3_init_25 : decode cX3_init 25 = .ok (.iconst 5, 1) := by decide +kernel
theorem dX3_init_26 : decode cX3_init 26 = .ok (.bipush 6, 2) := by decide +kernel
theorem dX3_init_28 : decode cX3_init 28 = .ok (.multianewarray 15 2, 4) := by decide +kernel
theorem dX3_init_32 : decode cX3_init 32 = .ok (.putfield 20, 3) := by decide +kernel
theorem dX3_init_35 : decode cX3_init 35 = .ok (.aload_n 0, 1) := by decide +kernel
theorem dX3_init_36 : decode cX3_init 36 = .ok (.bipush 6, 2) := by decide +kernel
theorem dX3_init_38 : decode cX3_init 38 = .ok (.newarray .int, 2) := by decide +kernel
theorem dX3_init_40 : decode cX3_init 40 = .ok (.putfield 23, 3) := by decide +kernel
theorem dX3_init_43 : decode cX3_init 43 = .ok (.aload_n 0, 1) := by decide +kernel
theorem dX3_init_44 : decode cX3_init 44 = .ok (.invokevirtual 26, 3) := by decide +kernel
theorem dX3_init_47 : decode cX3_init 47 = .ok (.return_, 1) := by decide +kernel
set_option maxRecDepth 20000 in
theorem ggX3_setAsAtFirst_J7_fill_53178 : GoodIn wsX3_setAsAtFirst wsJ7_fill_53178 := goodIn_r _ [8] (by decide +kernel) (by decide +kernel)
set_option maxRecDepth 20000 in
theorem gX3_setAsAtFirst_J7_fill_53178 : GoodIn wsX3_setAsAtFirst (va_wsS RX3 29 yJ7_fill_53178 wsJ7_fill_53178) := goodIn_app (goodIn_of _ (by decide +kernel)) ggX3_setAsAtFirst_J7_fill_53178
theorem dX3_setAsAtFirst_0 : decode cX3_setAsAtFirst 0 = .ok (.aload_n 0, 1) := by decide +kernel
theorem dX3_setAsAtFirst_1 : decode cX3_setAsAtFirst 1 = .ok (.getfield 9, 3) := by decide +kernel
theorem dX3_setAsAtFirst_4 : decode cX3_setAsAtFirst 4 = .ok (.iconst 1, 1) := by decide +kernel
theorem dX3_setAsAtFirst_5 : decode cX3_setAsAtFirst 5 = .ok (.invokestatic 29, 3) := by decide +kernel
theorem dX3_setAsAtFirst_8 : decode cX3_setAsAtFirst 8 = .ok (.iconst 0, 1) := by decide +kernel
theorem dX3_setAsAtFirst_9 : decode cX3_setAsAtFirst 9 = .ok (.istore_n 1, 1) := by decide +kernel
theorem dX3_setAsAtFirst_10 : decode cX3_setAsAtFirst 10 = .ok (.iload_n 1, 1) := by decide +kernel
theorem dX3_setAsAtFirst_11 : decode cX3_setAsAtFirst 11 = .ok (.bipush 6, 2) := by decide +kernel
theorem dX3_setAsAtFirst_13 : decode cX3_setAsAtFirst 13 = .ok (.if_icmp .ge 19, 3) := by decide +kernel
theorem dX3_setAsAtFirst_16 : decode cX3_setAsAtFirst 16 = .ok (.aload_n 0, 1) := by decide +kernel
theorem dX3_setAsAtFirst_17 : decode cX3_setAsAtFirst 17 = .ok (.getfield 17, 3) := by decide +kernel
theorem dX3_setAsAtFirst_20 : decode cX3_setAsAtFirst 20 = .ok (.iload_n 1, 1) := by decide +kernel
theorem dX3_setAsAtFirst_21 : decode cX3_setAsAtFirst 21 = .ok (.aaload, 1) := by decide +kernel
theorem dX3_setAsAtFirst_22 : decode cX3_setAsAtFirst 22 = .ok (.iconst 1, 1) := by decide +kernel
theorem dX3_setAsAtFirst_23 : decode cX3_setAsAtFirst 23 = .ok (.invokestatic 29, 3) := by decide +kernel
theorem dX3_setAsAtFirst_26 : decode cX3_setAsAtFirst 26 = .ok (.iinc 1 1, 3) := by decide +kernel
theorem dX3_setAsAtFirst_29 : decode cX3_setAsAtFirst 29 = .ok (.goto (-19), 3) := by decide +kernel
theorem dX3_setAsAtFirst_32 : decode cX3_setAsAtFirst 32 = .ok (.iconst 0, 1) := by decide +kernel
theorem dX3_setAsAtFirst_33 : decode cX3_setAsAtFirst 33 = .ok (.istore_n 1, 1) := by decide +kernel
theorem dX3_setAsAtFirst_34 : decode cX3_setAsAtFirst 34 = .ok (.iload_n 1, 1) := by decide +kernel
theorem dX3_setAsAtFirst_35 : decode cX3_setAsAtFirst 35 = .ok (.iconst 5, 1) := by decide +kernel
theorem dX3_setAsAtFirst_36 : decode cX3_setAsAtFirst 36 = .ok (.if_icmp .ge 19, 3) := by decide +kernel
theorem dX3_setAsAtFirst_39 : decode cX3_setAsAtFirst 39 = .ok (.aload_n 0, 1) := by decide +kernel
theorem dX3_setAsAtFirst_40 : decode cX3_setAsAtFirst 40 = .ok (.getfield 20, 3) := by decide +kernel
theorem dX3_setAsAtFirst_43 : decode cX3_setAsAtFirst 43 = .ok (.iload_n 1, 1) := by decide +kernel
theorem dX3_setAsAtFirst_44 : decode cX3_setAsAtFirst 44 = .ok (.aaload, 1) := by decide +kernel
theorem dX3_setAsAtFirst_45 : decode cX3_setAsAtFirst 45 = .ok (.iconst 1, 1) := by decide +kernel
theorem dX3_setAsAtFirst_46 : decode cX3_setAsAtFirst 46 = .ok (.invokestatic 29, 3) := by decide +kernel
theorem dX3_setAsAtFirst_49 : decode cX3_setAsAtFirst 49 = .ok (.iinc 1 1, 3) := by decide +kernel
theorem dX3_setAsAtFirst_52 : decode cX3_setAsAtFirst 52 = .ok (.goto (-18), 3) := by decide +kernel
theorem dX3_setAsAtFirst_55 : decode cX3_setAsAtFirst 55 = .ok (.aload_n 0, 1) := by decide +kernel
theorem dX3_setAsAtFirst_56 : decode cX3_setAsAtFirst 56 = .ok (.getfield 23, 3) := by decide +kernel
theorem dX3_setAsAtFirst_59 : decode cX3_setAsAtFirst 59 = .ok (.iconst 0, 1) := by decide +kernel
theorem dX3_setAsAtFirst_60 : decode cX3_setAsAtFirst 60 = .ok (.invokestatic 29, 3) := by decide +kernel
theorem dX3_setAsAtFirst_63 : decode cX3_setAsAtFirst 63 = .ok (.return_, 1) := by decide +kernel
set_option maxRecDepth 20000 in
theorem ggX4_init_X3_init : GoodIn wsX4_init wsX3_init := goodIn_r _ [18, 19, 2, 3, 20, 21, 22, 23, 24, 25, 26, 27, 28, 6, 29, 30, 31, 32, 33, 61, 62, 63, 64] (by decide +kernel) (by decide +kernel)
set_option maxRecDepth 20000 in
theorem gX4_init_X3_init : GoodIn wsX4_init (wsX3_init) := ggX4_init_X3_init
set_option maxRecDepth 20000 in
theorem ggX4_init_X0_init : GoodIn wsX4_init wsX0_init := goodIn_r _ [35, 36, 2, 3, 20, 37, 68, 69, 70, 71] (by decide +kernel) (by decide +kernel)
set_option maxRecDepth 20000 in
theorem gX4_init_X0_init_n18 : GoodIn wsX4_init (wsX0_init) := ggX4_init_X0_init
set_option maxRecDepth 20000 in
theorem ggX4_init_X2_init : GoodIn wsX4_init wsX2_init := goodIn_r _ [39, 40, 2, 3, 41, 42, 43, 44, 20, 45, 46, 47, 48, 49, 50, 51, 52, 53, 54, 55, 56, 57, 58, 59, 60, 85, 86, 72, 73, 74, 75, 76, 77, 78, 79, 80, 81, 82, 83, 84] (by decide +kernel) (by decide +kernel)
set_option maxRecDepth 20000 in
theorem gX4_init_X2_init_n25 : GoodIn wsX4_init (wsX2_init) := ggX4_init_X2_init
theorem dX4_init_0 : decode cX4_init 0 = .ok (.aload_n 0, 1) := by decide +kernel
theorem dX4_init_1 : decode cX4_init 1 = .ok (.invokespecial 1, 3) := by decide +kernel
theorem dX4_init_4 : decode cX4_init 4 = .ok (.aload_n 0, 1) := by decide +kernel
theorem dX4_init_5 : decode cX4_init 5 = .ok (.new 7, 3) := by decide +kernel
theorem dX4_init_8 : decode cX4_init 8 = .ok (.dup, 1) := by decide +kernel
theorem dX4_init_9 : decode cX4_init 9 = .ok (.invokespecial 9, 3) := by decide +kernel
theorem dX4_init_12 : decode cX4_init 12 = .ok (.putfield 10, 3) := by decide +kernel
theorem dX4_init_15 : decode cX4_init 15 = .ok (.aload_n 0, 1) := by decide +kernel
theorem dX4_init_16 : decode cX4_init 16 = .ok (.new 16, 3) := by decide +kernel
theorem dX4_init_19 : decode cX4_init 19 = .ok (.dup, 1) := by decide +kernel
theorem dX4_init_20 : decode cX4_init 20 = .ok (.invokespecial 18, 3) := by decide +kernel
theorem dX4_init_23 : decode cX4_init 23 = .ok (.putfield 19, 3) := by decide +kernel
theorem dX4_init_26 : decode cX4_init 26 = .ok (.aload_n 0, 1) := by decide +kernel
theorem dX4_init_27 : decode cX4_init 27 = .ok (.new 23, 3) := by decide +kernel
theorem dX4_init_30 : decode cX4_init 30 = .ok (.dup, 1) := by decide +kernel
theorem dX4_init_31 : decode cX4_init 31 = .ok (.invokespecial 25, 3) := by decide +kernel
theorem dX4_init_34 : decode cX4_init 34 = .ok (.putfield 26, 3) := by decide +kernel
theorem dX4_init_37 : decode cX4_init 37 = .ok (.return_, 1) := by decide +kernel
set_option maxRecDepth 20000 in
theorem ggX4_start_X4_isState : GoodIn wsX4_start wsX4_isState := goodIn_r _ [8] (by decide +kernel) (by decide +kernel)
set_option maxRecDepth 20000 in
theorem gX4_start_X4_isState : GoodIn wsX4_start (va_wsS RX4 30 yX4_isState wsX4_isState) := goodIn_app (goodIn_of _ (by decide +kernel)) ggX4_start_X4_isState
set_option maxRecDepth 20000 in
theorem ggX4_start_X4_isEntry : GoodIn wsX4_start wsX4_isEntry := goodIn_r _ [11] (by decide +kernel) (by decide +kernel)
set_option maxRecDepth 20000 in
theorem gX4_start_X4_isEntry : GoodIn wsX4_start (va_wsS RX4 35 yX4_isEntry wsX4_isEntry) := goodIn_app (goodIn_of _ (by decide +kernel)) ggX4_start_X4_isEntry
set_option maxRecDepth 20000 in
theorem ggX4_start_X4_exchange : GoodIn wsX4_start wsX4_exchange := goodIn_ca (goodIn_r _ [14] (by decide +kernel) (by decide +kernel)) (goodIn_sub (fun _ h => List.mem_cons_of_mem _ (List.mem_append_right _ h)) (by decide +kernel))
set_option maxRecDepth 20000 in
theorem gX4_start_X4_exchange : GoodIn wsX4_start (va_wsS RX4 43 yX4_exchange wsX4_exchange) := goodIn_app (goodIn_of _ (by decide +kernel)) ggX4_start_X4_exchange
theorem dX4_start_0 : decode cX4_start 0 = .ok (.iload_n 1, 1) := by decide +kernel
theorem dX4_start_1 : decode cX4_start 1 = .ok (.invokestatic 30, 3) := by decide +kernel
theorem dX4_start_4 : decode cX4_start 4 = .ok (.ifCond .ne 6, 3) := by decide +kernel
theorem dX4_start_7 : decode cX4_start 7 = .ok (.ldc 34, 2) := by decide +kernel
theorem dX4_start_9 : decode cX4_start 9 = .ok (.ireturn, 1) := by decide +kernel
theorem dX4_start_10 : decode cX4_start 10 = .ok (.iload_n 2, 1) := by decide +kernel
theorem dX4_start_11 : decode cX4_start 11 = .ok (.invokestatic 35, 3) := by decide +kernel
theorem dX4_start_14 : decode cX4_start 14 = .ok (.ifCond .ne 6, 3) := by decide +kernel
theorem dX4_start_17 : decode cX4_start 17 = .ok (.ldc 38, 2) := by decide +kernel
theorem dX4_start_19 : decode cX4_start 19 = .ok (.ireturn, 1) := by decide +kernel
theorem dX4_start_20 : decode cX4_start 20 = .ok (.aload_n 0, 1) := by decide +kernel
theorem dX4_start_21 : decode cX4_start 21 = .ok (.getfield 10, 3) := by decide +kernel
theorem dX4_start_24 : decode cX4_start 24 = .ok (.getfield 39, 3) := by decide +kernel
theorem dX4_start_27 : decode cX4_start 27 = .ok (.iload_n 1, 1) := by decide +kernel
theorem dX4_start_28 : decode cX4_start 28 = .ok (.iload_n 2, 1) := by decide +kernel
theorem dX4_start_29 : decode cX4_start 29 = .ok (.invokestatic 43, 3) := by decide +kernel
theorem dX4_start_32 : decode cX4_start 32 = .ok (.ireturn, 1) := by decide +kernel
set_option maxRecDepth 20000 in
theorem ggX4_move_X4_isState : GoodIn wsX4_move wsX4_isState := goodIn_r _ [8] (by decide +kernel) (by decide +kernel)
set_option maxRecDepth 20000 in
theorem gX4_move_X4_isState : GoodIn wsX4_move (va_wsS RX4 30 yX4_isState wsX4_isState) := goodIn_app (goodIn_of _ (by decide +kernel)) ggX4_move_X4_isState
set_option maxRecDepth 20000 in
theorem ggX4_move_X4_isEntry : GoodIn wsX4_move wsX4_isEntry := goodIn_r _ [11] (by decide +kernel) (by decide +kernel)
set_option maxRecDepth 20000 in
theorem gX4_move_X4_isEntry : GoodIn wsX4_move (va_wsS RX4 35 yX4_isEntry wsX4_isEntry) := goodIn_app (goodIn_of _ (by decide +kernel)) ggX4_move_X4_isEntry
set_option maxRecDepth 20000 in
theorem ggX4_move_X4_exchange : GoodIn wsX4_move wsX4_exchange := goodIn_ca (goodIn_r _ [14] (by decide +kernel) (by decide +kernel)) (goodIn_sub (fun _ h => List.mem_cons_of_mem _ (List.mem_append_right _ h)) (by decide +kernel))
set_option maxRecDepth 20000 in
theorem gX4_move_X4_exchange : GoodIn wsX4_move (va_wsS RX4 43 yX4_exchange wsX4_exchange) := goodIn_app (goodIn_of _ (by decide +kernel)) ggX4_move_X4_exchange
theorem dX4_move_0 : decode cX4_move 0 = .ok (.iload_n 1, 1) := by decide +kernel
theorem dX4_move_1 : decode cX4_move 1 = .ok (.invokestatic 30, 3) := by decide +kernel
theorem dX4_move_4 : decode cX4_move 4 = .ok (.ifCond .eq 10, 3) := by decide +kernel
theorem dX4_move_7 : decode cX4_move 7 = .ok (.iload_n 2, 1) := by decide +kernel
theorem dX4_move_8 : decode cX4_move 8 = .ok (.invokestatic 30, 3) := by decide +kernel
theorem dX4_move_11 : decode cX4_move 11 = .ok (.ifCond .ne 6, 3) := by decide +kernel
theorem dX4_move_14 : decode cX4_move 14 = .ok (.ldc 34, 2) := by decide +kernel
theorem dX4_move_16 : decode cX4_move 16 = .ok (.ireturn, 1) := by decide +kernel
theorem dX4_move_17 : decode cX4_move 17 = .ok (.iload_n 3, 1) := by decide +kernel
theorem dX4_move_18 : decode cX4_move 18 = .ok (.invokestatic 35, 3) := by decide +kernel
theorem dX4_move_21 : decode cX4_move 21 = .ok (.ifCond .ne 6, 3) := by decide +kernel
theorem dX4_move_24 : decode cX4_move 24 = .ok (.ldc 38, 2) := by decide +kernel
theorem dX4_move_26 : decode cX4_move 26 = .ok (.ireturn, 1) := by decide +kernel
theorem dX4_move_27 : decode cX4_move 27 = .ok (.aload_n 0, 1) := by decide +kernel
theorem dX4_move_28 : decode cX4_move 28 = .ok (.getfield 10, 3) := by decide +kernel
theorem dX4_move_31 : decode cX4_move 31 = .ok (.getfield 47, 3) := by decide +kernel
theorem dX4_move_34 : decode cX4_move 34 = .ok (.iload_n 1, 1) := by decide +kernel
theorem dX4_move_35 : decode cX4_move 35 = .ok (.aaload, 1) := by decide +kernel
theorem dX4_move_36 : decode cX4_move 36 = .ok (.iload_n 2, 1) := by decide +kernel
theorem dX4_move_37 : decode cX4_move 37 = .ok (.iload_n 3, 1) := by decide +kernel
theorem dX4_move_38 : decode cX4_move 38 = .ok (.invokestatic 43, 3) := by decide +kernel
theorem dX4_move_41 : decode cX4_move 41 = .ok (.ireturn, 1) := by decide +kernel
set_option maxRecDepth 20000 in
theorem ggX4_seen_X4_isSight : GoodIn wsX4_seen wsX4_isSight := goodIn_r _ [8] (by decide +kernel) (by decide +kernel)
set_option maxRecDepth 20000 in
theorem gX4_seen_X4_isSight : GoodIn wsX4_seen (va_wsS RX4 51 yX4_isSight wsX4_isSight) := goodIn_app (goodIn_of _ (by decide +kernel)) ggX4_seen_X4_isSight
set_option maxRecDepth 20000 in
theorem ggX4_seen_X4_isState : GoodIn wsX4_seen wsX4_isState := goodIn_r _ [11] (by decide +kernel) (by decide +kernel)
set_option maxRecDepth 20000 in
theorem gX4_seen_X4_isState : GoodIn wsX4_seen (va_wsS RX4 30 yX4_isState wsX4_isState) := goodIn_app (goodIn_of _ (by decide +kernel)) ggX4_seen_X4_isState
set_option maxRecDepth 20000 in
theorem ggX4_seen_X4_isEntry : GoodIn wsX4_seen wsX4_isEntry := goodIn_r _ [14] (by decide +kernel) (by decide +kernel)
set_option maxRecDepth 20000 in
theorem gX4_seen_X4_isEntry : GoodIn wsX4_seen (va_wsS RX4 35 yX4_isEntry wsX4_isEntry) := goodIn_app (goodIn_of _ (by decide +kernel)) ggX4_seen_X4_isEntry
set_option maxRecDepth 20000 in
theorem ggX4_seen_X4_exchange : GoodIn wsX4_seen wsX4_exchange := goodIn_ca (goodIn_r _ [17] (by decide +kernel) (by decide +kernel)) (goodIn_sub (fun _ h => List.mem_cons_of_mem _ (List.mem_append_right _ h)) (by decide +kernel))
set_option maxRecDepth 20000 in
theorem gX4_seen_X4_exchange : GoodIn wsX4_seen (va_wsS RX4 43 yX4_exchange wsX4_exchange) := goodIn_app (goodIn_of _ (by decide +kernel)) ggX4_seen_X4_exchange
theorem dX4_seen_0 : decode cX4_seen 0 = .ok (.iload_n 1, 1) := by decide +kernel
theorem dX4_seen_1 : decode cX4_seen 1 = .ok (.invokestatic 51, 3) := by decide +kernel
theorem dX4_seen_4 : decode cX4_seen 4 = .ok (.ifCond .eq 10, 3) := by decide +kernel
theorem dX4_seen_7 : decode cX4_seen 7 = .ok (.iload_n 2, 1) := by decide +kernel
theorem dX4_seen_8 : decode cX4_seen 8 = .ok (.invokestatic 30, 3) := by decide +kernel
theorem dX4_seen_11 : decode cX4_seen 11 = .ok (.ifCond .ne 6, 3) := by decide +kernel
theorem dX4_seen_14 : decode cX4_seen 14 = .ok (.ldc 34, 2) := by decide +kernel
theorem dX4_seen_16 : decode cX4_seen 16 = .ok (.ireturn, 1) := by decide +kernel
theorem dX4_seen_17 : decode cX4_seen 17 = .ok (.iload_n 3, 1) := by decide +kernel
theorem dX4_seen_18 : decode cX4_seen 18 = .ok (.invokestatic 35, 3) := by decide +kernel
theorem dX4_seen_21 : decode cX4_seen 21 = .ok (.ifCond .ne 6, 3) := by decide +kernel
theorem dX4_seen_24 : decode cX4_seen 24 = .ok (.ldc 38, 2) := by decide +kernel
theorem dX4_seen_26 : decode cX4_seen 26 = .ok (.ireturn, 1) := by decide +kernel
theorem dX4_seen_27 : decode cX4_seen 27 = .ok (.aload_n 0, 1) := by decide +kernel
theorem dX4_seen_28 : decode cX4_seen 28 = .ok (.getfield 10, 3) := by decide +kernel
theorem dX4_seen_31 : decode cX4_seen 31 = .ok (.getfield 54, 3) := by decide +kernel
theorem dX4_seen_34 : decode cX4_seen 34 = .ok (.iload_n 1, 1) := by decide +kernel
theorem dX4_seen_35 : decode cX4_seen 35 = .ok (.aaload, 1) := by decide +kernel
theorem dX4_seen_36 : decode cX4_seen 36 = .ok (.iload_n 2, 1) := by decide +kernel
theorem dX4_seen_37 : decode cX4_seen 37 = .ok (.iload_n 3, 1) := by decide +kernel
theorem dX4_seen_38 : decode cX4_seen 38 = .ok (.invokestatic 43, 3) := by decide +kernel
theorem dX4_seen_41 : decode cX4_seen 41 = .ok (.ireturn, 1) := by decide +kernel
set_option maxRecDepth 20000 in
theorem ggX4_named_X4_isState : GoodIn wsX4_named wsX4_isState := goodIn_r _ [8] (by decide +kernel) (by decide +kernel)
set_option maxRecDepth 20000 in
theorem gX4_named_X4_isState : GoodIn wsX4_named (va_wsS RX4 30 yX4_isState wsX4_isState) := goodIn_app (goodIn_of _ (by decide +kernel)) ggX4_named_X4_isState
set_option maxRecDepth 20000 in
theorem ggX4_named_X4_isName : GoodIn wsX4_named wsX4_isName := goodIn_r _ [11] (by decide +kernel) (by decide +kernel)
set_option maxRecDepth 20000 in
theorem gX4_named_X4_isName : GoodIn wsX4_named (va_wsS RX4 57 yX4_isName wsX4_isName) := goodIn_app (goodIn_of _ (by decide +kernel)) ggX4_named_X4_isName
set_option maxRecDepth 20000 in
theorem ggX4_named_X4_exchange : GoodIn wsX4_named wsX4_exchange := goodIn_ca (goodIn_r _ [14] (by decide +kernel) (by decide +kernel)) (goodIn_sub (fun _ h => List.mem_cons_of_mem _ (List.mem_append_right _ h)) (by decide +kernel))
set_option maxRecDepth 20000 in
theorem gX4_named_X4_exchange : GoodIn wsX4_named (va_wsS RX4 43 yX4_exchange wsX4_exchange) := goodIn_app (goodIn_of _ (by decide +kernel)) ggX4_named_X4_exchange
theorem dX4_named_0 : decode cX4_named 0 = .ok (.iload_n 1, 1) := by decide +kernel
theorem dX4_named_1 : decode cX4_named 1 = .ok (.invokestatic 30, 3) := by decide +kernel
theorem dX4_named_4 : decode cX4_named 4 = .ok (.ifCond .ne 6, 3) := by decide +kernel
theorem dX4_named_7 : decode cX4_named 7 = .ok (.ldc 34, 2) := by decide +kernel
theorem dX4_named_9 : decode cX4_named 9 = .ok (.ireturn, 1) := by decide +kernel
theorem dX4_named_10 : decode cX4_named 10 = .ok (.iload_n 2, 1) := by decide +kernel
theorem dX4_named_11 : decode cX4_named 11 = .ok (.invokestatic 57, 3) := by decide +kernel
theorem dX4_named_14 : decode cX4_named 14 = .ok (.ifCond .ne 6, 3) := by decide +kernel
theorem dX4_named_17 : decode cX4_named 17 = .ok (.ldc 38, 2) := by decide +kernel
theorem dX4_named_19 : decode cX4_named 19 = .ok (.ireturn, 1) := by decide +kernel
theorem dX4_named_20 : decode cX4_named 20 = .ok (.aload_n 0, 1) := by decide +kernel
theorem dX4_named_21 : decode cX4_named 21 = .ok (.getfield 10, 3) := by decide +kernel
theorem dX4_named_24 : decode cX4_named 24 = .ok (.getfield 60, 3) := by decide +kernel
theorem dX4_named_27 : decode cX4_named 27 = .ok (.iload_n 1, 1) := by decide +kernel
theorem dX4_named_28 : decode cX4_named 28 = .ok (.iload_n 2, 1) := by decide +kernel
theorem dX4_named_29 : decode cX4_named 29 = .ok (.invokestatic 43, 3) := by decide +kernel
theorem dX4_named_32 : decode cX4_named 32 = .ok (.ireturn, 1) := by decide +kernel
set_option maxRecDepth 20000 in
theorem ggX4_force_X0_addForced : GoodIn wsX4_force wsX0_addForced := goodIn_ca (goodIn_r _ [8, 9, 10, 11, 15, 16, 17, 18] (by decide +kernel) (by decide +kernel)) (goodIn_sub (fun _ h => List.mem_cons_of_mem _ (List.mem_append_right _ h)) (by decide +kernel))
set_option maxRecDepth 20000 in
theorem gX4_force_X0_addForced : GoodIn wsX4_force (wsV RX4 67 RX0 yX0_addForced wsX0_addForced) := goodIn_app (goodIn_of _ (by decide +kernel)) ggX4_force_X0_addForced
theorem dX4_force_0 : decode cX4_force 0 = .ok (.iload_n 1, 1) := by decide +kernel
theorem dX4_force_1 : decode cX4_force 1 = .ok (.ifCond .lt 15, 3) := by decide +kernel
theorem dX4_force_4 : decode cX4_force 4 = .ok (.aload_n 0, 1) := by decide +kernel
theorem dX4_force_5 : decode cX4_force 5 = .ok (.getfield 19, 3) := by decide +kernel
theorem dX4_force_8 : decode cX4_force 8 = .ok (.getfield 63, 3) := by decide +kernel
theorem dX4_force_11 : decode cX4_force 11 = .ok (.bipush 64, 2) := by decide +kernel
theorem dX4_force_13 : decode cX4_force 13 = .ok (.if_icmp .lt 6, 3) := by decide +kernel
theorem dX4_force_16 : decode cX4_force 16 = .ok (.ldc 38, 2) := by decide +kernel
theorem dX4_force_18 : decode cX4_force 18 = .ok (.ireturn, 1) := by decide +kernel
theorem dX4_force_19 : decode cX4_force 19 = .ok (.aload_n 0, 1) := by decide +kernel
theorem dX4_force_20 : decode cX4_force 20 = .ok (.getfield 19, 3) := by decide +kernel
theorem dX4_force_23 : decode cX4_force 23 = .ok (.iload_n 1, 1) := by decide +kernel
theorem dX4_force_24 : decode cX4_force 24 = .ok (.invokevirtual 67, 3) := by decide +kernel
theorem dX4_force_27 : decode cX4_force 27 = .ok (.aload_n 0, 1) := by decide +kernel
theorem dX4_force_28 : decode cX4_force 28 = .ok (.getfield 19, 3) := by decide +kernel
theorem dX4_force_31 : decode cX4_force 31 = .ok (.getfield 63, 3) := by decide +kernel
theorem dX4_force_34 : decode cX4_force 34 = .ok (.ireturn, 1) := by decide +kernel
set_option maxRecDepth 20000 in
theorem ggX4_begin_X2_beginWith : GoodIn wsX4_begin wsX2_beginWith := goodIn_ca (goodIn_r _ [12, 13, 14, 15, 16, 17, 18, 19, 20, 11, 21, 22, 23, 24, 25, 26, 27, 28, 29, 30, 31, 32, 33, 34, 35, 36, 37, 38, 39, 40, 41, 42, 43, 44, 45, 46, 47, 48, 49, 50, 51, 52, 64, 65, 66, 67, 68, 69, 70, 71, 72, 73, 74, 75, 76, 56, 57, 58, 59] (by decide +kernel) (by decide +kernel)) (goodIn_sub (fun _ h => List.mem_cons_of_mem _ (List.mem_append_right _ h)) (by decide +kernel))
set_option maxRecDepth 20000 in
theorem gX4_begin_X2_beginWith : GoodIn wsX4_begin (wsV RX4 76 RX2 yX2_beginWith wsX2_beginWith) := goodIn_app (goodIn_of _ (by decide +kernel)) ggX4_begin_X2_beginWith
theorem dX4_begin_0 : decode cX4_begin 0 = .ok (.iload_n 1, 1) := by decide +kernel
theorem dX4_begin_1 : decode cX4_begin 1 = .ok (.ifCond .ge 6, 3) := by decide +kernel
theorem dX4_begin_4 : decode cX4_begin 4 = .ok (.ldc 71, 2) := by decide +kernel
theorem dX4_begin_6 : decode cX4_begin 6 = .ok (.ireturn, 1) := by decide +kernel
theorem dX4_begin_7 : decode cX4_begin 7 = .ok (.iload_n 1, 1) := by decide +kernel
theorem dX4_begin_8 : decode cX4_begin 8 = .ok (.ifCond .eq 9, 3) := by decide +kernel
theorem dX4_begin_11 : decode cX4_begin 11 = .ok (.iload_n 1, 1) := by decide +kernel
theorem dX4_begin_12 : decode cX4_begin 12 = .ok (.bipush 16, 2) := by decide +kernel
theorem dX4_begin_14 : decode cX4_begin 14 = .ok (.if_icmp .le 6, 3) := by decide +kernel
theorem dX4_begin_17 : decode cX4_begin 17 = .ok (.ldc 38, 2) := by decide +kernel
theorem dX4_begin_19 : decode cX4_begin 19 = .ok (.ireturn, 1) := by decide +kernel
theorem dX4_begin_20 : decode cX4_begin 20 = .ok (.aload_n 0, 1) := by decide +kernel
theorem dX4_begin_21 : decode cX4_begin 21 = .ok (.getfield 19, 3) := by decide +kernel
theorem dX4_begin_24 : decode cX4_begin 24 = .ok (.lload_n 2, 1) := by decide +kernel
theorem dX4_begin_25 : decode cX4_begin 25 = .ok (.putfield 72, 3) := by decide +kernel
theorem dX4_begin_28 : decode cX4_begin 28 = .ok (.aload_n 0, 1) := by decide +kernel
theorem dX4_begin_29 : decode cX4_begin 29 = .ok (.getfield 26, 3) := by decide +kernel
theorem dX4_begin_32 : decode cX4_begin 32 = .ok (.iload_n 1, 1) := by decide +kernel
theorem dX4_begin_33 : decode cX4_begin 33 = .ok (.aload_n 0, 1) := by decide +kernel
theorem dX4_begin_34 : decode cX4_begin 34 = .ok (.getfield 10, 3) := by decide +kernel
theorem dX4_begin_37 : decode cX4_begin 37 = .ok (.getfield 39, 3) := by decide +kernel
theorem dX4_begin_40 : decode cX4_begin 40 = .ok (.aload_n 0, 1) := by decide +kernel
theorem dX4_begin_41 : decode cX4_begin 41 = .ok (.getfield 19, 3) := by decide +kernel
theorem dX4_begin_44 : decode cX4_begin 44 = .ok (.invokevirtual 76, 3) := by decide +kernel
theorem dX4_begin_47 : decode cX4_begin 47 = .ok (.ireturn, 1) := by decide +kernel
set_option maxRecDepth 20000 in
theorem ggX4_keep_X2_isBegun : GoodIn wsX4_keep wsX2_isBegun := goodIn_r _ [10, 11, 19, 20, 21, 22, 23, 24, 25, 26, 27, 28, 29, 30, 31] (by decide +kernel) (by decide +kernel)
set_option maxRecDepth 20000 in
theorem gX4_keep_X2_isBegun : GoodIn wsX4_keep (wsV RX4 80 RX2 yX2_isBegun wsX2_isBegun) := goodIn_app (goodIn_of _ (by decide +kernel)) ggX4_keep_X2_isBegun
set_option maxRecDepth 20000 in
theorem ggX4_keep_X2_hasRow : GoodIn wsX4_keep wsX2_hasRow := goodIn_r _ [15, 11, 19, 20, 21, 22, 23, 24, 25, 26, 27, 28, 29, 30, 31] (by decide +kernel) (by decide +kernel)
set_option maxRecDepth 20000 in
theorem gX4_keep_X2_hasRow : GoodIn wsX4_keep (wsV RX4 86 RX2 yX2_hasRow wsX2_hasRow) := goodIn_app (goodIn_of _ (by decide +kernel)) ggX4_keep_X2_hasRow
theorem dX4_keep_0 : decode cX4_keep 0 = .ok (.aload_n 0, 1) := by decide +kernel
theorem dX4_keep_1 : decode cX4_keep 1 = .ok (.getfield 26, 3) := by decide +kernel
theorem dX4_keep_4 : decode cX4_keep 4 = .ok (.invokevirtual 80, 3) := by decide +kernel
theorem dX4_keep_7 : decode cX4_keep 7 = .ok (.ifCond .ne 6, 3) := by decide +kernel
theorem dX4_keep_10 : decode cX4_keep 10 = .ok (.ldc 84, 2) := by decide +kernel
theorem dX4_keep_12 : decode cX4_keep 12 = .ok (.ireturn, 1) := by decide +kernel
theorem dX4_keep_13 : decode cX4_keep 13 = .ok (.iload_n 1, 1) := by decide +kernel
theorem dX4_keep_14 : decode cX4_keep 14 = .ok (.ldc 85, 2) := by decide +kernel
theorem dX4_keep_16 : decode cX4_keep 16 = .ok (.if_icmp .eq 17, 3) := by decide +kernel
theorem dX4_keep_19 : decode cX4_keep 19 = .ok (.aload_n 0, 1) := by decide +kernel
theorem dX4_keep_20 : decode cX4_keep 20 = .ok (.getfield 26, 3) := by decide +kernel
theorem dX4_keep_23 : decode cX4_keep 23 = .ok (.iload_n 1, 1) := by decide +kernel
theorem dX4_keep_24 : decode cX4_keep 24 = .ok (.invokevirtual 86, 3) := by decide +kernel
theorem dX4_keep_27 : decode cX4_keep 27 = .ok (.ifCond .ne 6, 3) := by decide +kernel
theorem dX4_keep_30 : decode cX4_keep 30 = .ok (.ldc 34, 2) := by decide +kernel
theorem dX4_keep_32 : decode cX4_keep 32 = .ok (.ireturn, 1) := by decide +kernel
theorem dX4_keep_33 : decode cX4_keep 33 = .ok (.aload_n 0, 1) := by decide +kernel
theorem dX4_keep_34 : decode cX4_keep 34 = .ok (.getfield 26, 3) := by decide +kernel
theorem dX4_keep_37 : decode cX4_keep 37 = .ok (.getfield 89, 3) := by decide +kernel
theorem dX4_keep_40 : decode cX4_keep 40 = .ok (.istore_n 2, 1) := by decide +kernel
theorem dX4_keep_41 : decode cX4_keep 41 = .ok (.aload_n 0, 1) := by decide +kernel
theorem dX4_keep_42 : decode cX4_keep 42 = .ok (.getfield 26, 3) := by decide +kernel
theorem dX4_keep_45 : decode cX4_keep 45 = .ok (.iload_n 1, 1) := by decide +kernel
theorem dX4_keep_46 : decode cX4_keep 46 = .ok (.putfield 89, 3) := by decide +kernel
theorem dX4_keep_49 : decode cX4_keep 49 = .ok (.iload_n 2, 1) := by decide +kernel
theorem dX4_keep_50 : decode cX4_keep 50 = .ok (.ireturn, 1) := by decide +kernel
set_option maxRecDepth 20000 in
theorem ggX4_step_X2_isBegun : GoodIn wsX4_step wsX2_isBegun := goodIn_r _ [15, 16, 73, 74, 75, 76, 77, 78, 79, 80, 81, 82, 83, 84, 85] (by decide +kernel) (by decide +kernel)
set_option maxRecDepth 20000 in
theorem gX4_step_X2_isBegun : GoodIn wsX4_step (wsV RX4 80 RX2 yX2_isBegun wsX2_isBegun) := goodIn_app (goodIn_of _ (by decide +kernel)) ggX4_step_X2_isBegun
set_option maxRecDepth 20000 in
theorem ggX4_step_X4_isSight : GoodIn wsX4_step wsX4_isSight := goodIn_r _ [20] (by decide +kernel) (by decide +kernel)
set_option maxRecDepth 20000 in
theorem gX4_step_X4_isSight : GoodIn wsX4_step (va_wsS RX4 51 yX4_isSight wsX4_isSight) := goodIn_app (goodIn_of _ (by decide +kernel)) ggX4_step_X4_isSight
set_option maxRecDepth 20000 in
theorem ggX4_step_X4_isName : GoodIn wsX4_step wsX4_isName := goodIn_r _ [23] (by decide +kernel) (by decide +kernel)
set_option maxRecDepth 20000 in
theorem gX4_step_X4_isName : GoodIn wsX4_step (va_wsS RX4 57 yX4_isName wsX4_isName) := goodIn_app (goodIn_of _ (by decide +kernel)) ggX4_step_X4_isName
set_option maxRecDepth 20000 in
theorem ggX4_step_X2_standsAt : GoodIn wsX4_step wsX2_standsAt := goodIn_ca (goodIn_r _ [27, 16, 28, 73, 74, 75, 76, 77, 78, 79, 80, 81, 82, 83, 84, 85] (by decide +kernel) (by decide +kernel)) (goodIn_sub (fun _ h => List.mem_cons_of_mem _ (List.mem_append_right _ h)) (by decide +kernel))
set_option maxRecDepth 20000 in
theorem gX4_step_X2_standsAt : GoodIn wsX4_step (wsV RX4 95 RX2 yX2_standsAt wsX2_standsAt) := goodIn_app (goodIn_of _ (by decide +kernel)) ggX4_step_X2_standsAt
set_option maxRecDepth 20000 in
theorem ggX4_step_X2_goOn : GoodIn wsX4_step wsX2_goOn := goodIn_ca (goodIn_r _ [32, 16, 28, 33, 34, 35, 36, 37, 38, 39, 40, 41, 42, 43, 44, 45, 46, 47, 19, 48, 49, 50, 51, 52, 53, 54, 55, 56, 57, 58, 59, 60, 61, 62, 63, 64, 65, 66, 67, 68, 14, 69, 73, 74, 75, 76, 77, 78, 79, 80, 81, 82, 83, 84, 85, 90, 91, 92, 93] (by decide +kernel) (by decide +kernel)) (goodIn_sub (fun _ h => List.mem_cons_of_mem _ (List.mem_append_right _ h)) (by decide +kernel))
set_option maxRecDepth 20000 in
theorem gX4_step_X2_goOn : GoodIn wsX4_step (wsV RX4 99 RX2 yX2_goOn wsX2_goOn) := goodIn_app (goodIn_of _ (by decide +kernel)) ggX4_step_X2_goOn
theorem dX4_step_0 : decode cX4_step 0 = .ok (.aload_n 0, 1) := by decide +kernel
theorem dX4_step_1 : decode cX4_step 1 = .ok (.getfield 26, 3) := by decide +kernel
theorem dX4_step_4 : decode cX4_step 4 = .ok (.invokevirtual 80, 3) := by decide +kernel
theorem dX4_step_7 : decode cX4_step 7 = .ok (.ifCond .ne 6, 3) := by decide +kernel
theorem dX4_step_10 : decode cX4_step 10 = .ok (.ldc 84, 2) := by decide +kernel
theorem dX4_step_12 : decode cX4_step 12 = .ok (.ireturn, 1) := by decide +kernel
theorem dX4_step_13 : decode cX4_step 13 = .ok (.iload_n 1, 1) := by decide +kernel
theorem dX4_step_14 : decode cX4_step 14 = .ok (.invokestatic 51, 3) := by decide +kernel
theorem dX4_step_17 : decode cX4_step 17 = .ok (.ifCond .ne 6, 3) := by decide +kernel
theorem dX4_step_20 : decode cX4_step 20 = .ok (.ldc 34, 2) := by decide +kernel
theorem dX4_step_22 : decode cX4_step 22 = .ok (.ireturn, 1) := by decide +kernel
theorem dX4_step_23 : decode cX4_step 23 = .ok (.iload_n 2, 1) := by decide +kernel
theorem dX4_step_24 : decode cX4_step 24 = .ok (.invokestatic 57, 3) := by decide +kernel
theorem dX4_step_27 : decode cX4_step 27 = .ok (.ifCond .ne 6, 3) := by decide +kernel
theorem dX4_step_30 : decode cX4_step 30 = .ok (.ldc 38, 2) := by decide +kernel
theorem dX4_step_32 : decode cX4_step 32 = .ok (.ireturn, 1) := by decide +kernel
theorem dX4_step_33 : decode cX4_step 33 = .ok (.aload_n 0, 1) := by decide +kernel
theorem dX4_step_34 : decode cX4_step 34 = .ok (.getfield 26, 3) := by decide +kernel
theorem dX4_step_37 : decode cX4_step 37 = .ok (.getfield 92, 3) := by decide +kernel
theorem dX4_step_40 : decode cX4_step 40 = .ok (.bipush 30, 2) := by decide +kernel
theorem dX4_step_42 : decode cX4_step 42 = .ok (.if_icmp .ge 21, 3) := by decide +kernel
theorem dX4_step_45 : decode cX4_step 45 = .ok (.aload_n 0, 1) := by decide +kernel
theorem dX4_step_46 : decode cX4_step 46 = .ok (.getfield 26, 3) := by decide +kernel
theorem dX4_step_49 : decode cX4_step 49 = .ok (.iload_n 2, 1) := by decide +kernel
theorem dX4_step_50 : decode cX4_step 50 = .ok (.aload_n 0, 1) := by decide +kernel
theorem dX4_step_51 : decode cX4_step 51 = .ok (.getfield 10, 3) := by decide +kernel
theorem dX4_step_54 : decode cX4_step 54 = .ok (.getfield 60, 3) := by decide +kernel
theorem dX4_step_57 : decode cX4_step 57 = .ok (.invokevirtual 95, 3) := by decide +kernel
theorem dX4_step_60 : decode cX4_step 60 = .ok (.ifCond .ne 6, 3) := by decide +kernel
theorem dX4_step_63 : decode cX4_step 63 = .ok (.ldc 84, 2) := by decide +kernel
theorem dX4_step_65 : decode cX4_step 65 = .ok (.ireturn, 1) := by decide +kernel
theorem dX4_step_66 : decode cX4_step 66 = .ok (.aload_n 0, 1) := by decide +kernel
theorem dX4_step_67 : decode cX4_step 67 = .ok (.getfield 26, 3) := by decide +kernel
theorem dX4_step_70 : decode cX4_step 70 = .ok (.aload_n 0, 1) := by decide +kernel
theorem dX4_step_71 : decode cX4_step 71 = .ok (.getfield 10, 3) := by decide +kernel
theorem dX4_step_74 : decode cX4_step 74 = .ok (.getfield 47, 3) := by decide +kernel
theorem dX4_step_77 : decode cX4_step 77 = .ok (.aload_n 0, 1) := by decide +kernel
theorem dX4_step_78 : decode cX4_step 78 = .ok (.getfield 10, 3) := by decide +kernel
theorem dX4_step_81 : decode cX4_step 81 = .ok (.getfield 54, 3) := by decide +kernel
theorem dX4_step_84 : decode cX4_step 84 = .ok (.iload_n 1, 1) := by decide +kernel
theorem dX4_step_85 : decode cX4_step 85 = .ok (.aaload, 1) := by decide +kernel
theorem dX4_step_86 : decode cX4_step 86 = .ok (.aload_n 0, 1) := by decide +kernel
theorem dX4_step_87 : decode cX4_step 87 = .ok (.getfield 19, 3) := by decide +kernel
theorem dX4_step_90 : decode cX4_step 90 = .ok (.invokevirtual 99, 3) := by decide +kernel
theorem dX4_step_93 : decode cX4_step 93 = .ok (.ireturn, 1) := by decide +kernel
set_option maxRecDepth 20000 in
theorem ggX4_again_X2_isBegun : GoodIn wsX4_again wsX2_isBegun := goodIn_r _ [9, 10, 142, 143, 144, 145, 146, 147, 148, 149, 150, 151, 152, 153, 154] (by decide +kernel) (by decide +kernel)
set_option maxRecDepth 20000 in
theorem gX4_again_X2_isBegun : GoodIn wsX4_again (wsV RX4 80 RX2 yX2_isBegun wsX2_isBegun) := goodIn_app (goodIn_of _ (by decide +kernel)) ggX4_again_X2_isBegun
set_option maxRecDepth 20000 in
theorem ggX4_again_X4_isWay : GoodIn wsX4_again wsX4_isWay := goodIn_r _ [14] (by decide +kernel) (by decide +kernel)
set_option maxRecDepth 20000 in
theorem gX4_again_X4_isWay : GoodIn wsX4_again (va_wsS RX4 103 yX4_isWay wsX4_isWay) := goodIn_app (goodIn_of _ (by decide +kernel)) ggX4_again_X4_isWay
set_option maxRecDepth 20000 in
theorem ggX4_again_X2_drawAnew : GoodIn wsX4_again wsX2_drawAnew := goodIn_ca (goodIn_r _ [18, 19, 20, 21, 22, 10, 23, 24, 25, 26, 27, 28, 8, 29, 30, 31, 13, 32, 33, 34, 35, 36, 37, 38, 39, 40, 41, 42, 43, 44, 45, 46, 47, 48, 49, 50, 51, 52, 53, 54, 55, 56, 57, 58, 59, 60, 61, 62, 63, 64, 65, 66, 67, 68, 69, 70, 71, 72, 73, 74, 75, 76, 77, 78, 79, 80, 81, 82, 83, 84, 85, 86, 87, 88, 89, 90, 91, 92, 93, 94, 95, 96, 97, 98, 99, 100, 101, 102, 103, 104, 105, 106, 107, 108, 109, 110, 111, 112, 113, 114, 115, 116, 117, 118, 119, 120, 121, 122, 123, 124, 125, 126, 127, 128, 129, 130, 131, 132, 133, 134, 135, 136, 137, 138, 142, 143, 144, 145, 146, 147, 148, 149, 150, 151, 152, 153, 154, 155, 156, 157, 158, 159, 160] (by decide +kernel) (by decide +kernel)) (goodIn_sub (fun _ h => List.mem_cons_of_mem _ (List.mem_append_right _ h)) (by decide +kernel))
set_option maxRecDepth 20000 in
theorem gX4_again_X2_drawAnew : GoodIn wsX4_again (wsV RX4 106 RX2 yX2_drawAnew wsX2_drawAnew) := goodIn_app (goodIn_of _ (by decide +kernel)) ggX4_again_X2_drawAnew
theorem dX4_again_0 : decode cX4_again 0 = .ok (.aload_n 0, 1) := by decide +kernel
theorem dX4_again_1 : decode cX4_again 1 = .ok (.getfield 26, 3) := by decide +kernel
theorem dX4_again_4 : decode cX4_again 4 = .ok (.invokevirtual 80, 3) := by decide +kernel
theorem dX4_again_7 : decode cX4_again 7 = .ok (.ifCond .ne 6, 3) := by decide +kernel
theorem dX4_again_10 : decode cX4_again 10 = .ok (.ldc 84, 2) := by decide +kernel
theorem dX4_again_12 : decode cX4_again 12 = .ok (.ireturn, 1) := by decide +kernel
theorem dX4_again_13 : decode cX4_again 13 = .ok (.iload_n 1, 1) := by decide +kernel
theorem dX4_again_14 : decode cX4_again 14 = .ok (.invokestatic 103, 3) := by decide +kernel
theorem dX4_again_17 : decode cX4_again 17 = .ok (.ifCond .ne 6, 3) := by decide +kernel
theorem dX4_again_20 : decode cX4_again 20 = .ok (.ldc 38, 2) := by decide +kernel
theorem dX4_again_22 : decode cX4_again 22 = .ok (.ireturn, 1) := by decide +kernel
theorem dX4_again_23 : decode cX4_again 23 = .ok (.aload_n 0, 1) := by decide +kernel
theorem dX4_again_24 : decode cX4_again 24 = .ok (.getfield 26, 3) := by decide +kernel
theorem dX4_again_27 : decode cX4_again 27 = .ok (.iload_n 1, 1) := by decide +kernel
theorem dX4_again_28 : decode cX4_again 28 = .ok (.aload_n 0, 1) := by decide +kernel
theorem dX4_again_29 : decode cX4_again 29 = .ok (.getfield 19, 3) := by decide +kernel
theorem dX4_again_32 : decode cX4_again 32 = .ok (.invokevirtual 106, 3) := by decide +kernel
theorem dX4_again_35 : decode cX4_again 35 = .ok (.ireturn, 1) := by decide +kernel
set_option maxRecDepth 20000 in
theorem ggX4_rule_X2_isBegun : GoodIn wsX4_rule wsX2_isBegun := goodIn_r _ [9, 10, 152, 153, 154, 155, 156, 157, 158, 159, 160, 161, 162, 163, 164] (by decide +kernel) (by decide +kernel)
set_option maxRecDepth 20000 in
theorem gX4_rule_X2_isBegun : GoodIn wsX4_rule (wsV RX4 80 RX2 yX2_isBegun wsX2_isBegun) := goodIn_app (goodIn_of _ (by decide +kernel)) ggX4_rule_X2_isBegun
set_option maxRecDepth 20000 in
theorem ggX4_rule_X4_isWay : GoodIn wsX4_rule wsX4_isWay := goodIn_r _ [14] (by decide +kernel) (by decide +kernel)
set_option maxRecDepth 20000 in
theorem gX4_rule_X4_isWay : GoodIn wsX4_rule (va_wsS RX4 103 yX4_isWay wsX4_isWay) := goodIn_app (goodIn_of _ (by decide +kernel)) ggX4_rule_X4_isWay
set_option maxRecDepth 20000 in
theorem ggX4_rule_X2_total : GoodIn wsX4_rule wsX2_total := goodIn_ca (goodIn_r _ [18, 19, 10, 20, 13, 21, 152, 153, 154, 155, 156, 157, 158, 159, 160, 161, 162, 163, 164] (by decide +kernel) (by decide +kernel)) (goodIn_sub (fun _ h => List.mem_cons_of_mem _ (List.mem_append_right _ h)) (by decide +kernel))
set_option maxRecDepth 20000 in
theorem gX4_rule_X2_total : GoodIn wsX4_rule (wsV RX4 110 RX2 yX2_total wsX2_total) := goodIn_app (goodIn_of _ (by decide +kernel)) ggX4_rule_X2_total
set_option maxRecDepth 20000 in
theorem ggX4_rule_X2_isEffectiveBelow : GoodIn wsX4_rule wsX2_isEffectiveBelow := goodIn_ca (goodIn_r _ [25, 26, 10, 27, 16, 17, 8, 18, 19, 20, 13, 21, 28, 29, 30, 31, 152, 153, 154, 155, 156, 157, 158, 159, 160, 161, 162, 163, 164] (by decide +kernel) (by decide +kernel)) (goodIn_sub (fun _ h => List.mem_cons_of_mem _ (List.mem_append_right _ h)) (by decide +kernel))
set_option maxRecDepth 20000 in
theorem gX4_rule_X2_isEffectiveBelow : GoodIn wsX4_rule (wsV RX4 114 RX2 yX2_isEffectiveBelow wsX2_isEffectiveBelow) := goodIn_app (goodIn_of _ (by decide +kernel)) ggX4_rule_X2_isEffectiveBelow
set_option maxRecDepth 20000 in
theorem ggX4_rule_X2_drawAnew : GoodIn wsX4_rule wsX2_drawAnew := goodIn_ca (goodIn_r _ [35, 36, 37, 38, 39, 10, 40, 41, 42, 27, 16, 17, 8, 18, 19, 20, 13, 21, 43, 44, 45, 46, 47, 48, 49, 50, 51, 52, 53, 54, 55, 56, 57, 58, 59, 60, 61, 62, 63, 64, 65, 66, 67, 68, 69, 70, 71, 72, 73, 74, 75, 76, 77, 78, 79, 80, 81, 82, 83, 84, 85, 86, 87, 88, 89, 90, 91, 92, 93, 94, 95, 96, 97, 98, 99, 100, 101, 102, 103, 104, 105, 106, 107, 108, 109, 110, 111, 112, 113, 114, 115, 116, 117, 118, 119, 120, 121, 122, 123, 124, 125, 126, 127, 128, 129, 130, 131, 132, 133, 134, 135, 136, 137, 138, 139, 140, 141, 142, 143, 144, 145, 146, 147, 148, 152, 153, 154, 155, 156, 157, 158, 159, 160, 161, 162, 163, 164, 165, 166, 167, 168, 169, 170] (by decide +kernel) (by decide +kernel)) (goodIn_sub (fun _ h => List.mem_cons_of_mem _ (List.mem_append_right _ h)) (by decide +kernel))
set_option maxRecDepth 20000 in
theorem gX4_rule_X2_drawAnew : GoodIn wsX4_rule (wsV RX4 106 RX2 yX2_drawAnew wsX2_drawAnew) := goodIn_app (goodIn_of _ (by decide +kernel)) ggX4_rule_X2_drawAnew
theorem dX4_rule_0 : decode cX4_rule 0 = .ok (.aload_n 0, 1) := by decide +kernel
theorem dX4_rule_1 : decode cX4_rule 1 = .ok (.getfield 26, 3) := by decide +kernel
theorem dX4_rule_4 : decode cX4_rule 4 = .ok (.invokevirtual 80, 3) := by decide +kernel
theorem dX4_rule_7 : decode cX4_rule 7 = .ok (.ifCond .ne 6, 3) := by decide +kernel
theorem dX4_rule_10 : decode cX4_rule 10 = .ok (.ldc 84, 2) := by decide +kernel
theorem dX4_rule_12 : decode cX4_rule 12 = .ok (.ireturn, 1) := by decide +kernel
theorem dX4_rule_13 : decode cX4_rule 13 = .ok (.iload_n 1, 1) := by decide +kernel
theorem dX4_rule_14 : decode cX4_rule 14 = .ok (.invokestatic 103, 3) := by decide +kernel
theorem dX4_rule_17 : decode cX4_rule 17 = .ok (.ifCond .eq 14, 3) := by decide +kernel
theorem dX4_rule_20 : decode cX4_rule 20 = .ok (.iload_n 2, 1) := by decide +kernel
theorem dX4_rule_21 : decode cX4_rule 21 = .ok (.iconst 1, 1) := by decide +kernel
theorem dX4_rule_22 : decode cX4_rule 22 = .ok (.if_icmp .lt 9, 3) := by decide +kernel
theorem dX4_rule_25 : decode cX4_rule 25 = .ok (.iload_n 2, 1) := by decide +kernel
theorem dX4_rule_26 : decode cX4_rule 26 = .ok (.bipush 100, 2) := by decide +kernel
theorem dX4_rule_28 : decode cX4_rule 28 = .ok (.if_icmp .le 6, 3) := by decide +kernel
theorem dX4_rule_31 : decode cX4_rule 31 = .ok (.ldc 38, 2) := by decide +kernel
theorem dX4_rule_33 : decode cX4_rule 33 = .ok (.ireturn, 1) := by decide +kernel
theorem dX4_rule_34 : decode cX4_rule 34 = .ok (.aload_n 0, 1) := by decide +kernel
theorem dX4_rule_35 : decode cX4_rule 35 = .ok (.getfield 26, 3) := by decide +kernel
theorem dX4_rule_38 : decode cX4_rule 38 = .ok (.invokevirtual 110, 3) := by decide +kernel
theorem dX4_rule_41 : decode cX4_rule 41 = .ok (.lconst 0, 1) := by decide +kernel
theorem dX4_rule_42 : decode cX4_rule 42 = .ok (.lcmp, 1) := by decide +kernel
theorem dX4_rule_43 : decode cX4_rule 43 = .ok (.ifCond .eq 14, 3) := by decide +kernel
theorem dX4_rule_46 : decode cX4_rule 46 = .ok (.aload_n 0, 1) := by decide +kernel
theorem dX4_rule_47 : decode cX4_rule 47 = .ok (.getfield 26, 3) := by decide +kernel
theorem dX4_rule_50 : decode cX4_rule 50 = .ok (.iload_n 2, 1) := by decide +kernel
theorem dX4_rule_51 : decode cX4_rule 51 = .ok (.invokevirtual 114, 3) := by decide +kernel
theorem dX4_rule_54 : decode cX4_rule 54 = .ok (.ifCond .eq 16, 3) := by decide +kernel
theorem dX4_rule_57 : decode cX4_rule 57 = .ok (.aload_n 0, 1) := by decide +kernel
theorem dX4_rule_58 : decode cX4_rule 58 = .ok (.getfield 26, 3) := by decide +kernel
theorem dX4_rule_61 : decode cX4_rule 61 = .ok (.iload_n 1, 1) := by decide +kernel
theorem dX4_rule_62 : decode cX4_rule 62 = .ok (.aload_n 0, 1) := by decide +kernel
theorem dX4_rule_63 : decode cX4_rule 63 = .ok (.getfield 19, 3) := by decide +kernel
theorem dX4_rule_66 : decode cX4_rule 66 = .ok (.invokevirtual 106, 3) := by decide +kernel
theorem dX4_rule_69 : decode cX4_rule 69 = .ok (.ireturn, 1) := by decide +kernel
theorem dX4_rule_70 : decode cX4_rule 70 = .ok (.iconst 0, 1) := by decide +kernel
theorem dX4_rule_71 : decode cX4_rule 71 = .ok (.ireturn, 1) := by decide +kernel
set_option maxRecDepth 20000 in
theorem ggX4_from_X2_isBegun : GoodIn wsX4_from wsX2_isBegun := goodIn_r _ [10, 11, 19, 20, 21, 22, 23, 24, 25, 26, 27, 28, 29, 30, 31] (by decide +kernel) (by decide +kernel)
set_option maxRecDepth 20000 in
theorem gX4_from_X2_isBegun : GoodIn wsX4_from (wsV RX4 80 RX2 yX2_isBegun wsX2_isBegun) := goodIn_app (goodIn_of _ (by decide +kernel)) ggX4_from_X2_isBegun
set_option maxRecDepth 20000 in
theorem ggX4_from_X2_hasRow : GoodIn wsX4_from wsX2_hasRow := goodIn_r _ [15, 11, 19, 20, 21, 22, 23, 24, 25, 26, 27, 28, 29, 30, 31] (by decide +kernel) (by decide +kernel)
set_option maxRecDepth 20000 in
theorem gX4_from_X2_hasRow : GoodIn wsX4_from (wsV RX4 86 RX2 yX2_hasRow wsX2_hasRow) := goodIn_app (goodIn_of _ (by decide +kernel)) ggX4_from_X2_hasRow
theorem dX4_from_0 : decode cX4_from 0 = .ok (.aload_n 0, 1) := by decide +kernel
theorem dX4_from_1 : decode cX4_from 1 = .ok (.getfield 26, 3) := by decide +kernel
theorem dX4_from_4 : decode cX4_from 4 = .ok (.invokevirtual 80, 3) := by decide +kernel
theorem dX4_from_7 : decode cX4_from 7 = .ok (.ifCond .ne 6, 3) := by decide +kernel
theorem dX4_from_10 : decode cX4_from 10 = .ok (.ldc 84, 2) := by decide +kernel
theorem dX4_from_12 : decode cX4_from 12 = .ok (.ireturn, 1) := by decide +kernel
theorem dX4_from_13 : decode cX4_from 13 = .ok (.aload_n 0, 1) := by decide +kernel
theorem dX4_from_14 : decode cX4_from 14 = .ok (.getfield 26, 3) := by decide +kernel
theorem dX4_from_17 : decode cX4_from 17 = .ok (.getfield 117, 3) := by decide +kernel
theorem dX4_from_20 : decode cX4_from 20 = .ok (.ifCond .eq 14, 3) := by decide +kernel
theorem dX4_from_23 : decode cX4_from 23 = .ok (.aload_n 0, 1) := by decide +kernel
theorem dX4_from_24 : decode cX4_from 24 = .ok (.getfield 26, 3) := by decide +kernel
theorem dX4_from_27 : decode cX4_from 27 = .ok (.iload_n 1, 1) := by decide +kernel
theorem dX4_from_28 : decode cX4_from 28 = .ok (.invokevirtual 86, 3) := by decide +kernel
theorem dX4_from_31 : decode cX4_from 31 = .ok (.ifCond .ne 6, 3) := by decide +kernel
theorem dX4_from_34 : decode cX4_from 34 = .ok (.ldc 34, 2) := by decide +kernel
theorem dX4_from_36 : decode cX4_from 36 = .ok (.ireturn, 1) := by decide +kernel
theorem dX4_from_37 : decode cX4_from 37 = .ok (.aload_n 0, 1) := by decide +kernel
theorem dX4_from_38 : decode cX4_from 38 = .ok (.getfield 26, 3) := by decide +kernel
theorem dX4_from_41 : decode cX4_from 41 = .ok (.getfield 120, 3) := by decide +kernel
theorem dX4_from_44 : decode cX4_from 44 = .ok (.iload_n 1, 1) := by decide +kernel
theorem dX4_from_45 : decode cX4_from 45 = .ok (.iaload, 1) := by decide +kernel
theorem dX4_from_46 : decode cX4_from 46 = .ok (.ireturn, 1) := by decide +kernel
set_option maxRecDepth 20000 in
theorem ggX4_row_X2_isBegun : GoodIn wsX4_row wsX2_isBegun := goodIn_r _ [10, 11, 24, 25, 26, 27, 28, 29, 30, 31, 32, 33, 34, 35, 36] (by decide +kernel) (by decide +kernel)
set_option maxRecDepth 20000 in
theorem gX4_row_X2_isBegun : GoodIn wsX4_row (wsV RX4 80 RX2 yX2_isBegun wsX2_isBegun) := goodIn_app (goodIn_of _ (by decide +kernel)) ggX4_row_X2_isBegun
set_option maxRecDepth 20000 in
theorem ggX4_row_X2_hasRow : GoodIn wsX4_row wsX2_hasRow := goodIn_r _ [15, 11, 24, 25, 26, 27, 28, 29, 30, 31, 32, 33, 34, 35, 36] (by decide +kernel) (by decide +kernel)
set_option maxRecDepth 20000 in
theorem gX4_row_X2_hasRow : GoodIn wsX4_row (wsV RX4 86 RX2 yX2_hasRow wsX2_hasRow) := goodIn_app (goodIn_of _ (by decide +kernel)) ggX4_row_X2_hasRow
set_option maxRecDepth 20000 in
theorem ggX4_row_X2_places : GoodIn wsX4_row wsX2_places := goodIn_r _ [19, 20, 24, 25, 26, 27, 28, 29, 30, 31, 32, 33, 34, 35, 36] (by decide +kernel) (by decide +kernel)
set_option maxRecDepth 20000 in
theorem gX4_row_X2_places : GoodIn wsX4_row (wsV RX4 126 RX2 yX2_places wsX2_places) := goodIn_app (goodIn_of _ (by decide +kernel)) ggX4_row_X2_places
theorem dX4_row_0 : decode cX4_row 0 = .ok (.aload_n 0, 1) := by decide +kernel
theorem dX4_row_1 : decode cX4_row 1 = .ok (.getfield 26, 3) := by decide +kernel
theorem dX4_row_4 : decode cX4_row 4 = .ok (.invokevirtual 80, 3) := by decide +kernel
theorem dX4_row_7 : decode cX4_row 7 = .ok (.ifCond .ne 6, 3) := by decide +kernel
theorem dX4_row_10 : decode cX4_row 10 = .ok (.ldc 84, 2) := by decide +kernel
theorem dX4_row_12 : decode cX4_row 12 = .ok (.ireturn, 1) := by decide +kernel
theorem dX4_row_13 : decode cX4_row 13 = .ok (.aload_n 0, 1) := by decide +kernel
theorem dX4_row_14 : decode cX4_row 14 = .ok (.getfield 26, 3) := by decide +kernel
theorem dX4_row_17 : decode cX4_row 17 = .ok (.iload_n 1, 1) := by decide +kernel
theorem dX4_row_18 : decode cX4_row 18 = .ok (.invokevirtual 86, 3) := by decide +kernel
theorem dX4_row_21 : decode cX4_row 21 = .ok (.ifCond .ne 6, 3) := by decide +kernel
theorem dX4_row_24 : decode cX4_row 24 = .ok (.ldc 34, 2) := by decide +kernel
theorem dX4_row_26 : decode cX4_row 26 = .ok (.ireturn, 1) := by decide +kernel
theorem dX4_row_27 : decode cX4_row 27 = .ok (.iload_n 2, 1) := by decide +kernel
theorem dX4_row_28 : decode cX4_row 28 = .ok (.lookupswitch 46 #[(0, 28), (1, 38)], 28) := by decide +kernel
theorem dX4_row_56 : decode cX4_row 56 = .ok (.aload_n 0, 1) := by decide +kernel
theorem dX4_row_57 : decode cX4_row 57 = .ok (.getfield 26, 3) := by decide +kernel
theorem dX4_row_60 : decode cX4_row 60 = .ok (.getfield 123, 3) := by decide +kernel
theorem dX4_row_63 : decode cX4_row 63 = .ok (.iload_n 1, 1) := by decide +kernel
theorem dX4_row_64 : decode cX4_row 64 = .ok (.iaload, 1) := by decide +kernel
theorem dX4_row_65 : decode cX4_row 65 = .ok (.ireturn, 1) := by decide +kernel
theorem dX4_row_66 : decode cX4_row 66 = .ok (.aload_n 0, 1) := by decide +kernel
theorem dX4_row_67 : decode cX4_row 67 = .ok (.getfield 26, 3) := by decide +kernel
theorem dX4_row_70 : decode cX4_row 70 = .ok (.invokevirtual 126, 3) := by decide +kernel
theorem dX4_row_73 : decode cX4_row 73 = .ok (.ireturn, 1) := by decide +kernel
theorem dX4_row_74 : decode cX4_row 74 = .ok (.ldc 38, 2) := by decide +kernel
theorem dX4_row_76 : decode cX4_row 76 = .ok (.ireturn, 1) := by decide +kernel
set_option maxRecDepth 20000 in
theorem ggX4_weight_X2_isBegun : GoodIn wsX4_weight wsX2_isBegun := goodIn_r _ [9, 10, 18, 19, 20, 21, 22, 23, 24, 25, 26, 27, 28, 29, 30] (by decide +kernel) (by decide +kernel)
set_option maxRecDepth 20000 in
theorem gX4_weight_X2_isBegun : GoodIn wsX4_weight (wsV RX4 80 RX2 yX2_isBegun wsX2_isBegun) := goodIn_app (goodIn_of _ (by decide +kernel)) ggX4_weight_X2_isBegun
set_option maxRecDepth 20000 in
theorem ggX4_weight_X2_hasRow : GoodIn wsX4_weight wsX2_hasRow := goodIn_r _ [14, 10, 18, 19, 20, 21, 22, 23, 24, 25, 26, 27, 28, 29, 30] (by decide +kernel) (by decide +kernel)
set_option maxRecDepth 20000 in
theorem gX4_weight_X2_hasRow : GoodIn wsX4_weight (wsV RX4 86 RX2 yX2_hasRow wsX2_hasRow) := goodIn_app (goodIn_of _ (by decide +kernel)) ggX4_weight_X2_hasRow
theorem dX4_weight_0 : decode cX4_weight 0 = .ok (.aload_n 0, 1) := by decide +kernel
theorem dX4_weight_1 : decode cX4_weight 1 = .ok (.getfield 26, 3) := by decide +kernel
theorem dX4_weight_4 : decode cX4_weight 4 = .ok (.invokevirtual 80, 3) := by decide +kernel
theorem dX4_weight_7 : decode cX4_weight 7 = .ok (.ifCond .ne 7, 3) := by decide +kernel
theorem dX4_weight_10 : decode cX4_weight 10 = .ok (.ldc2_w 130, 3) := by decide +kernel
theorem dX4_weight_13 : decode cX4_weight 13 = .ok (.lreturn, 1) := by decide +kernel
theorem dX4_weight_14 : decode cX4_weight 14 = .ok (.aload_n 0, 1) := by decide +kernel
theorem dX4_weight_15 : decode cX4_weight 15 = .ok (.getfield 26, 3) := by decide +kernel
theorem dX4_weight_18 : decode cX4_weight 18 = .ok (.iload_n 1, 1) := by decide +kernel
theorem dX4_weight_19 : decode cX4_weight 19 = .ok (.invokevirtual 86, 3) := by decide +kernel
theorem dX4_weight_22 : decode cX4_weight 22 = .ok (.ifCond .ne 7, 3) := by decide +kernel
theorem dX4_weight_25 : decode cX4_weight 25 = .ok (.ldc2_w 132, 3) := by decide +kernel
theorem dX4_weight_28 : decode cX4_weight 28 = .ok (.lreturn, 1) := by decide +kernel
theorem dX4_weight_29 : decode cX4_weight 29 = .ok (.aload_n 0, 1) := by decide +kernel
theorem dX4_weight_30 : decode cX4_weight 30 = .ok (.getfield 26, 3) := by decide +kernel
theorem dX4_weight_33 : decode cX4_weight 33 = .ok (.getfield 134, 3) := by decide +kernel
theorem dX4_weight_36 : decode cX4_weight 36 = .ok (.iload_n 1, 1) := by decide +kernel
theorem dX4_weight_37 : decode cX4_weight 37 = .ok (.iaload, 1) := by decide +kernel
theorem dX4_weight_38 : decode cX4_weight 38 = .ok (.i2l, 1) := by decide +kernel
theorem dX4_weight_39 : decode cX4_weight 39 = .ok (.lreturn, 1) := by decide +kernel
set_option maxRecDepth 20000 in
theorem ggX4_history_X2_isBegun : GoodIn wsX4_history wsX2_isBegun := goodIn_r _ [12, 13, 36, 37, 38, 39, 40, 41, 42, 43, 44, 45, 46, 47, 48] (by decide +kernel) (by decide +kernel)
set_option maxRecDepth 20000 in
theorem gX4_history_X2_isBegun : GoodIn wsX4_history (wsV RX4 80 RX2 yX2_isBegun wsX2_isBegun) := goodIn_app (goodIn_of _ (by decide +kernel)) ggX4_history_X2_isBegun
set_option maxRecDepth 20000 in
theorem ggX4_history_X2_hasRow : GoodIn wsX4_history wsX2_hasRow := goodIn_r _ [17, 13, 36, 37, 38, 39, 40, 41, 42, 43, 44, 45, 46, 47, 48] (by decide +kernel) (by decide +kernel)
set_option maxRecDepth 20000 in
theorem gX4_history_X2_hasRow : GoodIn wsX4_history (wsV RX4 86 RX2 yX2_hasRow wsX2_hasRow) := goodIn_app (goodIn_of _ (by decide +kernel)) ggX4_history_X2_hasRow
set_option maxRecDepth 20000 in
theorem ggX4_history_X2_hasPlace : GoodIn wsX4_history wsX2_hasPlace := goodIn_r _ [21, 22, 23, 24, 11, 25, 26, 36, 37, 38, 39, 40, 41, 42, 43, 44, 45, 46, 47, 48] (by decide +kernel) (by decide +kernel)
set_option maxRecDepth 20000 in
theorem gX4_history_X2_hasPlace : GoodIn wsX4_history (wsV RX4 137 RX2 yX2_hasPlace wsX2_hasPlace) := goodIn_app (goodIn_of _ (by decide +kernel)) ggX4_history_X2_hasPlace
theorem dX4_history_0 : decode cX4_history 0 = .ok (.aload_n 0, 1) := by decide +kernel
theorem dX4_history_1 : decode cX4_history 1 = .ok (.getfield 26, 3) := by decide +kernel
theorem dX4_history_4 : decode cX4_history 4 = .ok (.invokevirtual 80, 3) := by decide +kernel
theorem dX4_history_7 : decode cX4_history 7 = .ok (.ifCond .ne 6, 3) := by decide +kernel
theorem dX4_history_10 : decode cX4_history 10 = .ok (.ldc 84, 2) := by decide +kernel
theorem dX4_history_12 : decode cX4_history 12 = .ok (.ireturn, 1) := by decide +kernel
theorem dX4_history_13 : decode cX4_history 13 = .ok (.aload_n 0, 1) := by decide +kernel
theorem dX4_history_14 : decode cX4_history 14 = .ok (.getfield 26, 3) := by decide +kernel
theorem dX4_history_17 : decode cX4_history 17 = .ok (.iload_n 1, 1) := by decide +kernel
theorem dX4_history_18 : decode cX4_history 18 = .ok (.invokevirtual 86, 3) := by decide +kernel
theorem dX4_history_21 : decode cX4_history 21 = .ok (.ifCond .ne 6, 3) := by decide +kernel
theorem dX4_history_24 : decode cX4_history 24 = .ok (.ldc 34, 2) := by decide +kernel
theorem dX4_history_26 : decode cX4_history 26 = .ok (.ireturn, 1) := by decide +kernel
theorem dX4_history_27 : decode cX4_history 27 = .ok (.aload_n 0, 1) := by decide +kernel
theorem dX4_history_28 : decode cX4_history 28 = .ok (.getfield 26, 3) := by decide +kernel
theorem dX4_history_31 : decode cX4_history 31 = .ok (.iload_n 2, 1) := by decide +kernel
theorem dX4_history_32 : decode cX4_history 32 = .ok (.invokevirtual 137, 3) := by decide +kernel
theorem dX4_history_35 : decode cX4_history 35 = .ok (.ifCond .ne 13, 3) := by decide +kernel
theorem dX4_history_38 : decode cX4_history 38 = .ok (.new 140, 3) := by decide +kernel
theorem dX4_history_41 : decode cX4_history 41 = .ok (.dup, 1) := by decide +kernel
theorem dX4_history_42 : decode cX4_history 42 = .ok (.ldc 142, 2) := by decide +kernel
theorem dX4_history_44 : decode cX4_history 44 = .ok (.invokespecial 144, 3) := by decide +kernel
theorem dX4_history_47 : decode cX4_history 47 = .ok (.athrow, 1) := by decide +kernel
theorem dX4_history_48 : decode cX4_history 48 = .ok (.aload_n 0, 1) := by decide +kernel
theorem dX4_history_49 : decode cX4_history 49 = .ok (.getfield 26, 3) := by decide +kernel
theorem dX4_history_52 : decode cX4_history 52 = .ok (.getfield 147, 3) := by decide +kernel
theorem dX4_history_55 : decode cX4_history 55 = .ok (.iload_n 1, 1) := by decide +kernel
theorem dX4_history_56 : decode cX4_history 56 = .ok (.aaload, 1) := by decide +kernel
theorem dX4_history_57 : decode cX4_history 57 = .ok (.iload_n 2, 1) := by decide +kernel
theorem dX4_history_58 : decode cX4_history 58 = .ok (.iaload, 1) := by decide +kernel
theorem dX4_history_59 : decode cX4_history 59 = .ok (.ireturn, 1) := by decide +kernel
set_option maxRecDepth 20000 in
theorem ggX4_write_X2_isBegun : GoodIn wsX4_write wsX2_isBegun := goodIn_r _ [10, 11, 32, 33, 34, 35, 36, 37, 38, 39, 40, 41, 42, 43, 44] (by decide +kernel) (by decide +kernel)
set_option maxRecDepth 20000 in
theorem gX4_write_X2_isBegun : GoodIn wsX4_write (wsV RX4 80 RX2 yX2_isBegun wsX2_isBegun) := goodIn_app (goodIn_of _ (by decide +kernel)) ggX4_write_X2_isBegun
set_option maxRecDepth 20000 in
theorem ggX4_write_X2_hasRow : GoodIn wsX4_write wsX2_hasRow := goodIn_r _ [15, 11, 32, 33, 34, 35, 36, 37, 38, 39, 40, 41, 42, 43, 44] (by decide +kernel) (by decide +kernel)
set_option maxRecDepth 20000 in
theorem gX4_write_X2_hasRow : GoodIn wsX4_write (wsV RX4 86 RX2 yX2_hasRow wsX2_hasRow) := goodIn_app (goodIn_of _ (by decide +kernel)) ggX4_write_X2_hasRow
set_option maxRecDepth 20000 in
theorem ggX4_write_X4_isState : GoodIn wsX4_write wsX4_isState := goodIn_r _ [19] (by decide +kernel) (by decide +kernel)
set_option maxRecDepth 20000 in
theorem gX4_write_X4_isState : GoodIn wsX4_write (va_wsS RX4 30 yX4_isState wsX4_isState) := goodIn_app (goodIn_of _ (by decide +kernel)) ggX4_write_X4_isState
set_option maxRecDepth 20000 in
theorem ggX4_write_X2_hasPlace : GoodIn wsX4_write wsX2_hasPlace := goodIn_r _ [23, 24, 25, 26, 9, 27, 28, 32, 33, 34, 35, 36, 37, 38, 39, 40, 41, 42, 43, 44] (by decide +kernel) (by decide +kernel)
set_option maxRecDepth 20000 in
theorem gX4_write_X2_hasPlace : GoodIn wsX4_write (wsV RX4 137 RX2 yX2_hasPlace wsX2_hasPlace) := goodIn_app (goodIn_of _ (by decide +kernel)) ggX4_write_X2_hasPlace
theorem dX4_write_0 : decode cX4_write 0 = .ok (.aload_n 0, 1) := by decide +kernel
theorem dX4_write_1 : decode cX4_write 1 = .ok (.getfield 26, 3) := by decide +kernel
theorem dX4_write_4 : decode cX4_write 4 = .ok (.invokevirtual 80, 3) := by decide +kernel
theorem dX4_write_7 : decode cX4_write 7 = .ok (.ifCond .ne 6, 3) := by decide +kernel
theorem dX4_write_10 : decode cX4_write 10 = .ok (.ldc 84, 2) := by decide +kernel
theorem dX4_write_12 : decode cX4_write 12 = .ok (.ireturn, 1) := by decide +kernel
theorem dX4_write_13 : decode cX4_write 13 = .ok (.aload_n 0, 1) := by decide +kernel
theorem dX4_write_14 : decode cX4_write 14 = .ok (.getfield 26, 3) := by decide +kernel
theorem dX4_write_17 : decode cX4_write 17 = .ok (.iload_n 1, 1) := by decide +kernel
theorem dX4_write_18 : decode cX4_write 18 = .ok (.invokevirtual 86, 3) := by decide +kernel
theorem dX4_write_21 : decode cX4_write 21 = .ok (.ifCond .eq 10, 3) := by decide +kernel
theorem dX4_write_24 : decode cX4_write 24 = .ok (.iload_n 3, 1) := by decide +kernel
theorem dX4_write_25 : decode cX4_write 25 = .ok (.invokestatic 30, 3) := by decide +kernel
theorem dX4_write_28 : decode cX4_write 28 = .ok (.ifCond .ne 6, 3) := by decide +kernel
theorem dX4_write_31 : decode cX4_write 31 = .ok (.ldc 34, 2) := by decide +kernel
theorem dX4_write_33 : decode cX4_write 33 = .ok (.ireturn, 1) := by decide +kernel
theorem dX4_write_34 : decode cX4_write 34 = .ok (.aload_n 0, 1) := by decide +kernel
theorem dX4_write_35 : decode cX4_write 35 = .ok (.getfield 26, 3) := by decide +kernel
theorem dX4_write_38 : decode cX4_write 38 = .ok (.iload_n 2, 1) := by decide +kernel
theorem dX4_write_39 : decode cX4_write 39 = .ok (.invokevirtual 137, 3) := by decide +kernel
theorem dX4_write_42 : decode cX4_write 42 = .ok (.ifCond .ne 6, 3) := by decide +kernel
theorem dX4_write_45 : decode cX4_write 45 = .ok (.ldc 38, 2) := by decide +kernel
theorem dX4_write_47 : decode cX4_write 47 = .ok (.ireturn, 1) := by decide +kernel
theorem dX4_write_48 : decode cX4_write 48 = .ok (.aload_n 0, 1) := by decide +kernel
theorem dX4_write_49 : decode cX4_write 49 = .ok (.getfield 26, 3) := by decide +kernel
theorem dX4_write_52 : decode cX4_write 52 = .ok (.getfield 147, 3) := by decide +kernel
theorem dX4_write_55 : decode cX4_write 55 = .ok (.iload_n 1, 1) := by decide +kernel
theorem dX4_write_56 : decode cX4_write 56 = .ok (.aaload, 1) := by decide +kernel
theorem dX4_write_57 : decode cX4_write 57 = .ok (.iload_n 2, 1) := by decide +kernel
theorem dX4_write_58 : decode cX4_write 58 = .ok (.iload_n 3, 1) := by decide +kernel
theorem dX4_write_59 : decode cX4_write 59 = .ok (.iastore, 1) := by decide +kernel
theorem dX4_write_60 : decode cX4_write 60 = .ok (.iconst 1, 1) := by decide +kernel
theorem dX4_write_61 : decode cX4_write 61 = .ok (.ireturn, 1) := by decide +kernel
set_option maxRecDepth 20000 in
theorem ggX4_told_X2_isBegun : GoodIn wsX4_told wsX2_isBegun := goodIn_r _ [8, 9, 31, 32, 33, 34, 35, 36, 37, 38, 39, 40, 41, 42, 43] (by decide +kernel) (by decide +kernel)
set_option maxRecDepth 20000 in
theorem gX4_told_X2_isBegun : GoodIn wsX4_told (wsV RX4 80 RX2 yX2_isBegun wsX2_isBegun) := goodIn_app (goodIn_of _ (by decide +kernel)) ggX4_told_X2_isBegun
set_option maxRecDepth 20000 in
theorem ggX4_told_X2_total : GoodIn wsX4_told wsX2_total := goodIn_ca (goodIn_r _ [13, 14, 9, 15, 16, 17, 31, 32, 33, 34, 35, 36, 37, 38, 39, 40, 41, 42, 43] (by decide +kernel) (by decide +kernel)) (goodIn_sub (fun _ h => List.mem_cons_of_mem _ (List.mem_append_right _ h)) (by decide +kernel))
set_option maxRecDepth 20000 in
theorem gX4_told_X2_total : GoodIn wsX4_told (wsV RX4 110 RX2 yX2_total wsX2_total) := goodIn_app (goodIn_of _ (by decide +kernel)) ggX4_told_X2_total
set_option maxRecDepth 20000 in
theorem ggX4_told_X2_squares : GoodIn wsX4_told wsX2_squares := goodIn_ca (goodIn_r _ [21, 9, 14, 31, 32, 33, 34, 35, 36, 37, 38, 39, 40, 41, 42, 43] (by decide +kernel) (by decide +kernel)) (goodIn_sub (fun _ h => List.mem_cons_of_mem _ (List.mem_append_right _ h)) (by decide +kernel))
set_option maxRecDepth 20000 in
theorem gX4_told_X2_squares : GoodIn wsX4_told (wsV RX4 150 RX2 yX2_squares wsX2_squares) := goodIn_app (goodIn_of _ (by decide +kernel)) ggX4_told_X2_squares
set_option maxRecDepth 20000 in
theorem ggX4_told_X2_effective : GoodIn wsX4_told wsX2_effective := goodIn_ca (goodIn_r _ [25, 26, 19, 20, 7, 21, 9, 14, 27, 11, 12, 13, 15, 16, 17, 31, 32, 33, 34, 35, 36, 37, 38, 39, 40, 41, 42, 43] (by decide +kernel) (by decide +kernel)) (goodIn_sub (fun _ h => List.mem_cons_of_mem _ (List.mem_append_right _ h)) (by decide +kernel))
set_option maxRecDepth 20000 in
theorem gX4_told_X2_effective : GoodIn wsX4_told (wsV RX4 153 RX2 yX2_effective wsX2_effective) := goodIn_app (goodIn_of _ (by decide +kernel)) ggX4_told_X2_effective
theorem dX4_told_0 : decode cX4_told 0 = .ok (.aload_n 0, 1) := by decide +kernel
theorem dX4_told_1 : decode cX4_told 1 = .ok (.getfield 26, 3) := by decide +kernel
theorem dX4_told_4 : decode cX4_told 4 = .ok (.invokevirtual 80, 3) := by decide +kernel
theorem dX4_told_7 : decode cX4_told 7 = .ok (.ifCond .ne 7, 3) := by decide +kernel
theorem dX4_told_10 : decode cX4_told 10 = .ok (.ldc2_w 130, 3) := by decide +kernel
theorem dX4_told_13 : decode cX4_told 13 = .ok (.lreturn, 1) := by decide +kernel
theorem dX4_told_14 : decode cX4_told 14 = .ok (.iload_n 1, 1) := by decide +kernel
theorem dX4_told_15 : decode cX4_told 15 = .ok (.tableswitch 49 0 2 #[25, 33, 41], 25) := by decide +kernel
theorem dX4_told_40 : decode cX4_told 40 = .ok (.aload_n 0, 1) := by decide +kernel
theorem dX4_told_41 : decode cX4_told 41 = .ok (.getfield 26, 3) := by decide +kernel
theorem dX4_told_44 : decode cX4_told 44 = .ok (.invokevirtual 110, 3) := by decide +kernel
theorem dX4_told_47 : decode cX4_told 47 = .ok (.lreturn, 1) := by decide +kernel
theorem dX4_told_48 : decode cX4_told 48 = .ok (.aload_n 0, 1) := by decide +kernel
theorem dX4_told_49 : decode cX4_told 49 = .ok (.getfield 26, 3) := by decide +kernel
theorem dX4_told_52 : decode cX4_told 52 = .ok (.invokevirtual 150, 3) := by decide +kernel
theorem dX4_told_55 : decode cX4_told 55 = .ok (.lreturn, 1) := by decide +kernel
theorem dX4_told_56 : decode cX4_told 56 = .ok (.aload_n 0, 1) := by decide +kernel
theorem dX4_told_57 : decode cX4_told 57 = .ok (.getfield 26, 3) := by decide +kernel
theorem dX4_told_60 : decode cX4_told 60 = .ok (.invokevirtual 153, 3) := by decide +kernel
theorem dX4_told_63 : decode cX4_told 63 = .ok (.lreturn, 1) := by decide +kernel
theorem dX4_told_64 : decode cX4_told 64 = .ok (.ldc2_w 156, 3) := by decide +kernel
theorem dX4_told_67 : decode cX4_told 67 = .ok (.lreturn, 1) := by decide +kernel
set_option maxRecDepth 20000 in
theorem ggX4_evidence_X2_isBegun : GoodIn wsX4_evidence wsX2_isBegun := goodIn_r _ [6, 7, 24, 25, 26, 27, 28, 29, 30, 31, 32, 33, 34, 35, 36] (by decide +kernel) (by decide +kernel)
set_option maxRecDepth 20000 in
theorem gX4_evidence_X2_isBegun : GoodIn wsX4_evidence (wsV RX4 80 RX2 yX2_isBegun wsX2_isBegun) := goodIn_app (goodIn_of _ (by decide +kernel)) ggX4_evidence_X2_isBegun
set_option maxRecDepth 20000 in
theorem ggX4_evidence_X2_evidenceSoFar : GoodIn wsX4_evidence wsX2_evidenceSoFar := goodIn_ca (goodIn_r _ [11, 12, 7, 13, 14, 15, 5, 16, 17, 18, 19, 20, 24, 25, 26, 27, 28, 29, 30, 31, 32, 33, 34, 35, 36] (by decide +kernel) (by decide +kernel)) (goodIn_sub (fun _ h => List.mem_cons_of_mem _ (List.mem_append_right _ h)) (by decide +kernel))
set_option maxRecDepth 20000 in
theorem gX4_evidence_X2_evidenceSoFar : GoodIn wsX4_evidence (wsV RX4 158 RX2 yX2_evidenceSoFar wsX2_evidenceSoFar) := goodIn_app (goodIn_of _ (by decide +kernel)) ggX4_evidence_X2_evidenceSoFar
theorem dX4_evidence_0 : decode cX4_evidence 0 = .ok (.aload_n 0, 1) := by decide +kernel
theorem dX4_evidence_1 : decode cX4_evidence 1 = .ok (.getfield 26, 3) := by decide +kernel
theorem dX4_evidence_4 : decode cX4_evidence 4 = .ok (.invokevirtual 80, 3) := by decide +kernel
theorem dX4_evidence_7 : decode cX4_evidence 7 = .ok (.ifCond .eq 13, 3) := by decide +kernel
theorem dX4_evidence_10 : decode cX4_evidence 10 = .ok (.aload_n 0, 1) := by decide +kernel
theorem dX4_evidence_11 : decode cX4_evidence 11 = .ok (.getfield 26, 3) := by decide +kernel
theorem dX4_evidence_14 : decode cX4_evidence 14 = .ok (.invokevirtual 158, 3) := by decide +kernel
theorem dX4_evidence_17 : decode cX4_evidence 17 = .ok (.goto 4, 3) := by decide +kernel
theorem dX4_evidence_20 : decode cX4_evidence 20 = .ok (.dconst 0, 1) := by decide +kernel
theorem dX4_evidence_21 : decode cX4_evidence 21 = .ok (.dreturn, 1) := by decide +kernel
theorem dX4_count_0 : decode cX4_count 0 = .ok (.iload_n 1, 1) := by decide +kernel
theorem dX4_count_1 : decode cX4_count 1 = .ok (.tableswitch 75 0 4 #[35, 43, 51, 59, 67], 35) := by decide +kernel
theorem dX4_count_36 : decode cX4_count 36 = .ok (.aload_n 0, 1) := by decide +kernel
theorem dX4_count_37 : decode cX4_count 37 = .ok (.getfield 26, 3) := by decide +kernel
theorem dX4_count_40 : decode cX4_count 40 = .ok (.getfield 162, 3) := by decide +kernel
theorem dX4_count_43 : decode cX4_count 43 = .ok (.ireturn, 1) := by decide +kernel
theorem dX4_count_44 : decode cX4_count 44 = .ok (.aload_n 0, 1) := by decide +kernel
theorem dX4_count_45 : decode cX4_count 45 = .ok (.getfield 26, 3) := by decide +kernel
theorem dX4_count_48 : decode cX4_count 48 = .ok (.getfield 92, 3) := by decide +kernel
theorem dX4_count_51 : decode cX4_count 51 = .ok (.ireturn, 1) := by decide +kernel
theorem dX4_count_52 : decode cX4_count 52 = .ok (.aload_n 0, 1) := by decide +kernel
theorem dX4_count_53 : decode cX4_count 53 = .ok (.getfield 26, 3) := by decide +kernel
theorem dX4_count_56 : decode cX4_count 56 = .ok (.getfield 117, 3) := by decide +kernel
theorem dX4_count_59 : decode cX4_count 59 = .ok (.ireturn, 1) := by decide +kernel
theorem dX4_count_60 : decode cX4_count 60 = .ok (.aload_n 0, 1) := by decide +kernel
theorem dX4_count_61 : decode cX4_count 61 = .ok (.getfield 19, 3) := by decide +kernel
theorem dX4_count_64 : decode cX4_count 64 = .ok (.getfield 63, 3) := by decide +kernel
theorem dX4_count_67 : decode cX4_count 67 = .ok (.ireturn, 1) := by decide +kernel
theorem dX4_count_68 : decode cX4_count 68 = .ok (.aload_n 0, 1) := by decide +kernel
theorem dX4_count_69 : decode cX4_count 69 = .ok (.getfield 26, 3) := by decide +kernel
theorem dX4_count_72 : decode cX4_count 72 = .ok (.getfield 89, 3) := by decide +kernel
theorem dX4_count_75 : decode cX4_count 75 = .ok (.ireturn, 1) := by decide +kernel
theorem dX4_count_76 : decode cX4_count 76 = .ok (.ldc 38, 2) := by decide +kernel
theorem dX4_count_78 : decode cX4_count 78 = .ok (.ireturn, 1) := by decide +kernel
set_option maxRecDepth 20000 in
theorem ggX4_clear_X3_setAsAtFirst : GoodIn wsX4_clear wsX3_setAsAtFirst := goodIn_r _ [9, 10, 11, 12, 13, 14, 15, 16, 17, 53, 54, 55, 56] (by decide +kernel) (by decide +kernel)
set_option maxRecDepth 20000 in
theorem gX4_clear_X3_setAsAtFirst : GoodIn wsX4_clear (wsV RX4 165 RX3 yX3_setAsAtFirst wsX3_setAsAtFirst) := goodIn_app (goodIn_of _ (by decide +kernel)) ggX4_clear_X3_setAsAtFirst
set_option maxRecDepth 20000 in
theorem ggX4_clear_X0_setAsAtFirst : GoodIn wsX4_clear wsX0_setAsAtFirst := goodIn_r _ [22, 23, 24, 25, 57, 58, 59, 60] (by decide +kernel) (by decide +kernel)
set_option maxRecDepth 20000 in
theorem gX4_clear_X0_setAsAtFirst : GoodIn wsX4_clear (wsV RX4 168 RX0 yX0_setAsAtFirst wsX0_setAsAtFirst) := goodIn_app (goodIn_of _ (by decide +kernel)) ggX4_clear_X0_setAsAtFirst
set_option maxRecDepth 20000 in
theorem ggX4_clear_X2_end : GoodIn wsX4_clear wsX2_end := goodIn_r _ [30, 31, 32, 33, 34, 35, 36, 40, 41, 42, 43, 44, 45, 46, 47, 48, 49, 50, 51, 52] (by decide +kernel) (by decide +kernel)
set_option maxRecDepth 20000 in
theorem gX4_clear_X2_end : GoodIn wsX4_clear (wsV RX4 169 RX2 yX2_end wsX2_end) := goodIn_app (goodIn_of _ (by decide +kernel)) ggX4_clear_X2_end
theorem dX4_clear_0 : decode cX4_clear 0 = .ok (.aload_n 0, 1) := by decide +kernel
theorem dX4_clear_1 : decode cX4_clear 1 = .ok (.getfield 26, 3) := by decide +kernel
theorem dX4_clear_4 : decode cX4_clear 4 = .ok (.getfield 162, 3) := by decide +kernel
theorem dX4_clear_7 : decode cX4_clear 7 = .ok (.istore_n 1, 1) := by decide +kernel
theorem dX4_clear_8 : decode cX4_clear 8 = .ok (.aload_n 0, 1) := by decide +kernel
theorem dX4_clear_9 : decode cX4_clear 9 = .ok (.getfield 10, 3) := by decide +kernel
theorem dX4_clear_12 : decode cX4_clear 12 = .ok (.invokevirtual 165, 3) := by decide +kernel
theorem dX4_clear_15 : decode cX4_clear 15 = .ok (.aload_n 0, 1) := by decide +kernel
theorem dX4_clear_16 : decode cX4_clear 16 = .ok (.getfield 19, 3) := by decide +kernel
theorem dX4_clear_19 : decode cX4_clear 19 = .ok (.invokevirtual 168, 3) := by decide +kernel
theorem dX4_clear_22 : decode cX4_clear 22 = .ok (.aload_n 0, 1) := by decide +kernel
theorem dX4_clear_23 : decode cX4_clear 23 = .ok (.getfield 26, 3) := by decide +kernel
theorem dX4_clear_26 : decode cX4_clear 26 = .ok (.invokevirtual 169, 3) := by decide +kernel
theorem dX4_clear_29 : decode cX4_clear 29 = .ok (.iload_n 1, 1) := by decide +kernel
theorem dX4_clear_30 : decode cX4_clear 30 = .ok (.ireturn, 1) := by decide +kernel
theorem dX4_isState_0 : decode cX4_isState 0 = .ok (.iload_n 0, 1) := by decide +kernel
theorem dX4_isState_1 : decode cX4_isState 1 = .ok (.ifCond .lt 13, 3) := by decide +kernel
theorem dX4_isState_4 : decode cX4_isState 4 = .ok (.iload_n 0, 1) := by decide +kernel
theorem dX4_isState_5 : decode cX4_isState 5 = .ok (.bipush 6, 2) := by decide +kernel
theorem dX4_isState_7 : decode cX4_isState 7 = .ok (.if_icmp .ge 7, 3) := by decide +kernel
theorem dX4_isState_10 : decode cX4_isState 10 = .ok (.iconst 1, 1) := by decide +kernel
theorem dX4_isState_11 : decode cX4_isState 11 = .ok (.goto 4, 3) := by decide +kernel
theorem dX4_isState_14 : decode cX4_isState 14 = .ok (.iconst 0, 1) := by decide +kernel
theorem dX4_isState_15 : decode cX4_isState 15 = .ok (.ireturn, 1) := by decide +kernel
theorem dX4_isSight_0 : decode cX4_isSight 0 = .ok (.iload_n 0, 1) := by decide +kernel
theorem dX4_isSight_1 : decode cX4_isSight 1 = .ok (.ifCond .lt 12, 3) := by decide +kernel
theorem dX4_isSight_4 : decode cX4_isSight 4 = .ok (.iload_n 0, 1) := by decide +kernel
theorem dX4_isSight_5 : decode cX4_isSight 5 = .ok (.iconst 5, 1) := by decide +kernel
theorem dX4_isSight_6 : decode cX4_isSight 6 = .ok (.if_icmp .ge 7, 3) := by decide +kernel
theorem dX4_isSight_9 : decode cX4_isSight 9 = .ok (.iconst 1, 1) := by decide +kernel
theorem dX4_isSight_10 : decode cX4_isSight 10 = .ok (.goto 4, 3) := by decide +kernel
theorem dX4_isSight_13 : decode cX4_isSight 13 = .ok (.iconst 0, 1) := by decide +kernel
theorem dX4_isSight_14 : decode cX4_isSight 14 = .ok (.ireturn, 1) := by decide +kernel
theorem dX4_isName_0 : decode cX4_isName 0 = .ok (.iload_n 0, 1) := by decide +kernel
theorem dX4_isName_1 : decode cX4_isName 1 = .ok (.ifCond .lt 12, 3) := by decide +kernel
theorem dX4_isName_4 : decode cX4_isName 4 = .ok (.iload_n 0, 1) := by decide +kernel
theorem dX4_isName_5 : decode cX4_isName 5 = .ok (.iconst 4, 1) := by decide +kernel
theorem dX4_isName_6 : decode cX4_isName 6 = .ok (.if_icmp .ge 7, 3) := by decide +kernel
theorem dX4_isName_9 : decode cX4_isName 9 = .ok (.iconst 1, 1) := by decide +kernel
theorem dX4_isName_10 : decode cX4_isName 10 = .ok (.goto 4, 3) := by decide +kernel
theorem dX4_isName_13 : decode cX4_isName 13 = .ok (.iconst 0, 1) := by decide +kernel
theorem dX4_isName_14 : decode cX4_isName 14 = .ok (.ireturn, 1) := by decide +kernel
theorem dX4_isWay_0 : decode cX4_isWay 0 = .ok (.iload_n 0, 1) := by decide +kernel
theorem dX4_isWay_1 : decode cX4_isWay 1 = .ok (.ifCond .lt 12, 3) := by decide +kernel
theorem dX4_isWay_4 : decode cX4_isWay 4 = .ok (.iload_n 0, 1) := by decide +kernel
theorem dX4_isWay_5 : decode cX4_isWay 5 = .ok (.iconst 4, 1) := by decide +kernel
theorem dX4_isWay_6 : decode cX4_isWay 6 = .ok (.if_icmp .ge 7, 3) := by decide +kernel
theorem dX4_isWay_9 : decode cX4_isWay 9 = .ok (.iconst 1, 1) := by decide +kernel
theorem dX4_isWay_10 : decode cX4_isWay 10 = .ok (.goto 4, 3) := by decide +kernel
theorem dX4_isWay_13 : decode cX4_isWay 13 = .ok (.iconst 0, 1) := by decide +kernel
theorem dX4_isWay_14 : decode cX4_isWay 14 = .ok (.ireturn, 1) := by decide +kernel
theorem dX4_isEntry_0 : decode cX4_isEntry 0 = .ok (.iload_n 0, 1) := by decide +kernel
theorem dX4_isEntry_1 : decode cX4_isEntry 1 = .ok (.ifCond .lt 13, 3) := by decide +kernel
theorem dX4_isEntry_4 : decode cX4_isEntry 4 = .ok (.iload_n 0, 1) := by decide +kernel
theorem dX4_isEntry_5 : decode cX4_isEntry 5 = .ok (.bipush 9, 2) := by decide +kernel
theorem dX4_isEntry_7 : decode cX4_isEntry 7 = .ok (.if_icmp .gt 7, 3) := by decide +kernel
theorem dX4_isEntry_10 : decode cX4_isEntry 10 = .ok (.iconst 1, 1) := by decide +kernel
theorem dX4_isEntry_11 : decode cX4_isEntry 11 = .ok (.goto 4, 3) := by decide +kernel
theorem dX4_isEntry_14 : decode cX4_isEntry 14 = .ok (.iconst 0, 1) := by decide +kernel
theorem dX4_isEntry_15 : decode cX4_isEntry 15 = .ok (.ireturn, 1) := by decide +kernel
theorem dX4_exchange_0 : decode cX4_exchange 0 = .ok (.aload_n 0, 1) := by decide +kernel
theorem dX4_exchange_1 : decode cX4_exchange 1 = .ok (.iload_n 1, 1) := by decide +kernel
theorem dX4_exchange_2 : decode cX4_exchange 2 = .ok (.iaload, 1) := by decide +kernel
theorem dX4_exchange_3 : decode cX4_exchange 3 = .ok (.istore_n 3, 1) := by decide +kernel
theorem dX4_exchange_4 : decode cX4_exchange 4 = .ok (.aload_n 0, 1) := by decide +kernel
theorem dX4_exchange_5 : decode cX4_exchange 5 = .ok (.iload_n 1, 1) := by decide +kernel
theorem dX4_exchange_6 : decode cX4_exchange 6 = .ok (.iload_n 2, 1) := by decide +kernel
theorem dX4_exchange_7 : decode cX4_exchange 7 = .ok (.iastore, 1) := by decide +kernel
theorem dX4_exchange_8 : decode cX4_exchange 8 = .ok (.iload_n 3, 1) := by decide +kernel
theorem dX4_exchange_9 : decode cX4_exchange 9 = .ok (.ireturn, 1) := by decide +kernel
theorem dX4_sumOf_0 : decode cX4_sumOf 0 = .ok (.lconst 0, 1) := by decide +kernel
theorem dX4_sumOf_1 : decode cX4_sumOf 1 = .ok (.lstore_n 2, 1) := by decide +kernel
theorem dX4_sumOf_2 : decode cX4_sumOf 2 = .ok (.iconst 0, 1) := by decide +kernel
theorem dX4_sumOf_3 : decode cX4_sumOf 3 = .ok (.istore 4, 2) := by decide +kernel
theorem dX4_sumOf_5 : decode cX4_sumOf 5 = .ok (.iload 4, 2) := by decide +kernel
theorem dX4_sumOf_7 : decode cX4_sumOf 7 = .ok (.iload_n 1, 1) := by decide +kernel
theorem dX4_sumOf_8 : decode cX4_sumOf 8 = .ok (.if_icmp .ge 17, 3) := by decide +kernel
theorem dX4_sumOf_11 : decode cX4_sumOf 11 = .ok (.lload_n 2, 1) := by decide +kernel
theorem dX4_sumOf_12 : decode cX4_sumOf 12 = .ok (.aload_n 0, 1) := by decide +kernel
theorem dX4_sumOf_13 : decode cX4_sumOf 13 = .ok (.iload 4, 2) := by decide +kernel
theorem dX4_sumOf_15 : decode cX4_sumOf 15 = .ok (.iaload, 1) := by decide +kernel
theorem dX4_sumOf_16 : decode cX4_sumOf 16 = .ok (.i2l, 1) := by decide +kernel
theorem dX4_sumOf_17 : decode cX4_sumOf 17 = .ok (.ladd, 1) := by decide +kernel
theorem dX4_sumOf_18 : decode cX4_sumOf 18 = .ok (.lstore_n 2, 1) := by decide +kernel
theorem dX4_sumOf_19 : decode cX4_sumOf 19 = .ok (.iinc 4 1, 3) := by decide +kernel
theorem dX4_sumOf_22 : decode cX4_sumOf 22 = .ok (.goto (-17), 3) := by decide +kernel
theorem dX4_sumOf_25 : decode cX4_sumOf 25 = .ok (.lload_n 2, 1) := by decide +kernel
theorem dX4_sumOf_26 : decode cX4_sumOf 26 = .ok (.lreturn, 1) := by decide +kernel
theorem dX4_firstAbove_0 : decode cX4_firstAbove 0 = .ok (.lconst 0, 1) := by decide +kernel
theorem dX4_firstAbove_1 : decode cX4_firstAbove 1 = .ok (.lstore 6, 2) := by decide +kernel
theorem dX4_firstAbove_3 : decode cX4_firstAbove 3 = .ok (.iconst 0, 1) := by decide +kernel
theorem dX4_firstAbove_4 : decode cX4_firstAbove 4 = .ok (.istore 8, 2) := by decide +kernel
theorem dX4_firstAbove_6 : decode cX4_firstAbove 6 = .ok (.iload 8, 2) := by decide +kernel
theorem dX4_firstAbove_8 : decode cX4_firstAbove 8 = .ok (.iload 5, 2) := by decide +kernel
theorem dX4_firstAbove_10 : decode cX4_firstAbove 10 = .ok (.if_icmp .ge 32, 3) := by decide +kernel
theorem dX4_firstAbove_13 : decode cX4_firstAbove 13 = .ok (.lload 6, 2) := by decide +kernel
theorem dX4_firstAbove_15 : decode cX4_firstAbove 15 = .ok (.lload_n 2, 1) := by decide +kernel
theorem dX4_firstAbove_16 : decode cX4_firstAbove 16 = .ok (.aload 4, 2) := by decide +kernel
theorem dX4_firstAbove_18 : decode cX4_firstAbove 18 = .ok (.iload 8, 2) := by decide +kernel
theorem dX4_firstAbove_20 : decode cX4_firstAbove 20 = .ok (.iaload, 1) := by decide +kernel
theorem dX4_firstAbove_21 : decode cX4_firstAbove 21 = .ok (.i2l, 1) := by decide +kernel
theorem dX4_firstAbove_22 : decode cX4_firstAbove 22 = .ok (.lmul, 1) := by decide +kernel
theorem dX4_firstAbove_23 : decode cX4_firstAbove 23 = .ok (.ladd, 1) := by decide +kernel
theorem dX4_firstAbove_24 : decode cX4_firstAbove 24 = .ok (.lstore 6, 2) := by decide +kernel
theorem dX4_firstAbove_26 : decode cX4_firstAbove 26 = .ok (.lload 6, 2) := by decide +kernel
theorem dX4_firstAbove_28 : decode cX4_firstAbove 28 = .ok (.lload_n 0, 1) := by decide +kernel
theorem dX4_firstAbove_29 : decode cX4_firstAbove 29 = .ok (.lcmp, 1) := by decide +kernel
theorem dX4_firstAbove_30 : decode cX4_firstAbove 30 = .ok (.ifCond .le 6, 3) := by decide +kernel
theorem dX4_firstAbove_33 : decode cX4_firstAbove 33 = .ok (.iload 8, 2) := by decide +kernel
theorem dX4_firstAbove_35 : decode cX4_firstAbove 35 = .ok (.ireturn, 1) := by decide +kernel
theorem dX4_firstAbove_36 : decode cX4_firstAbove 36 = .ok (.iinc 8 1, 3) := by decide +kernel
theorem dX4_firstAbove_39 : decode cX4_firstAbove 39 = .ok (.goto (-33), 3) := by decide +kernel
theorem dX4_firstAbove_42 : decode cX4_firstAbove 42 = .ok (.ldc 172, 2) := by decide +kernel
theorem dX4_firstAbove_44 : decode cX4_firstAbove 44 = .ok (.ireturn, 1) := by decide +kernel
theorem dJ7_fill_53178_0 : decode cJ7_fill_53178 0 = .ok (.iconst 0, 1) := by decide +kernel
theorem dJ7_fill_53178_1 : decode cJ7_fill_53178 1 = .ok (.istore_n 2, 1) := by decide +kernel
theorem dJ7_fill_53178_2 : decode cJ7_fill_53178 2 = .ok (.aload_n 0, 1) := by decide +kernel
theorem dJ7_fill_53178_3 : decode cJ7_fill_53178 3 = .ok (.arraylength, 1) := by decide +kernel
theorem dJ7_fill_53178_4 : decode cJ7_fill_53178 4 = .ok (.istore_n 3, 1) := by decide +kernel
theorem dJ7_fill_53178_5 : decode cJ7_fill_53178 5 = .ok (.iload_n 2, 1) := by decide +kernel
theorem dJ7_fill_53178_6 : decode cJ7_fill_53178 6 = .ok (.iload_n 3, 1) := by decide +kernel
theorem dJ7_fill_53178_7 : decode cJ7_fill_53178 7 = .ok (.if_icmp .ge 13, 3) := by decide +kernel
theorem dJ7_fill_53178_10 : decode cJ7_fill_53178 10 = .ok (.aload_n 0, 1) := by decide +kernel
theorem dJ7_fill_53178_11 : decode cJ7_fill_53178 11 = .ok (.iload_n 2, 1) := by decide +kernel
theorem dJ7_fill_53178_12 : decode cJ7_fill_53178 12 = .ok (.iload_n 1, 1) := by decide +kernel
theorem dJ7_fill_53178_13 : decode cJ7_fill_53178 13 = .ok (.iastore, 1) := by decide +kernel
theorem dJ7_fill_53178_14 : decode cJ7_fill_53178 14 = .ok (.iinc 2 1, 3) := by decide +kernel
theorem dJ7_fill_53178_17 : decode cJ7_fill_53178 17 = .ok (.goto (-12), 3) := by decide +kernel
theorem dJ7_fill_53178_20 : decode cJ7_fill_53178 20 = .ok (.return_, 1) := by decide +kernel
