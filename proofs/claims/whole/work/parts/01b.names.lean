theorem dX0_init_0 : decode cX0_init 0 = .ok (.aload_n 0, 1) := by decide +kernel
theorem dX0_init_1 : decode cX0_init 1 = .ok (.invokespecial 3, 3) := by decide +kernel
theorem dX0_init_4 : decode cX0_init 4 = .ok (.aload_n 0, 1) := by decide +kernel
theorem dX0_init_5 : decode cX0_init 5 = .ok (.bipush 48, 2) := by decide +kernel
theorem dX0_init_7 : decode cX0_init 7 = .ok (.newarray .int, 2) := by decide +kernel
theorem dX0_init_9 : decode cX0_init 9 = .ok (.putfield 11, 3) := by decide +kernel
theorem dX0_init_12 : decode cX0_init 12 = .ok (.aload_n 0, 1) := by decide +kernel
theorem dX0_init_13 : decode cX0_init 13 = .ok (.iconst 0, 1) := by decide +kernel
theorem dX0_init_14 : decode cX0_init 14 = .ok (.putfield 15, 3) := by decide +kernel
theorem dX0_init_17 : decode cX0_init 17 = .ok (.return_, 1) := by decide +kernel
set_option maxRecDepth 20000 in
theorem ggX0_stepAt_J9_floorMod_7cf53 : GoodIn wsX0_stepAt wsJ9_floorMod_7cf53 := goodIn_r _ [6] (by decide +kernel) (by decide +kernel)
set_option maxRecDepth 20000 in
theorem gX0_stepAt_J9_floorMod_7cf53 : GoodIn wsX0_stepAt (va_wsS RX0 19 yJ9_floorMod_7cf53 wsJ9_floorMod_7cf53) := goodIn_app (goodIn_of _ (by decide +kernel)) ggX0_stepAt_J9_floorMod_7cf53
set_option maxRecDepth 20000 in
theorem ggX0_stepAt_X9_at : GoodIn wsX0_stepAt wsX9_at := goodIn_r _ [9] (by decide +kernel) (by decide +kernel)
set_option maxRecDepth 20000 in
theorem gX0_stepAt_X9_at_n25 : GoodIn wsX0_stepAt (wsX9_at) := ggX0_stepAt_X9_at
theorem dX0_stepAt_0 : decode cX0_stepAt 0 = .ok (.aload_n 0, 1) := by decide +kernel
theorem dX0_stepAt_1 : decode cX0_stepAt 1 = .ok (.getfield 15, 3) := by decide +kernel
theorem dX0_stepAt_4 : decode cX0_stepAt 4 = .ok (.ifCond .le 21, 3) := by decide +kernel
theorem dX0_stepAt_7 : decode cX0_stepAt 7 = .ok (.aload_n 0, 1) := by decide +kernel
theorem dX0_stepAt_8 : decode cX0_stepAt 8 = .ok (.getfield 11, 3) := by decide +kernel
theorem dX0_stepAt_11 : decode cX0_stepAt 11 = .ok (.iload_n 1, 1) := by decide +kernel
theorem dX0_stepAt_12 : decode cX0_stepAt 12 = .ok (.aload_n 0, 1) := by decide +kernel
theorem dX0_stepAt_13 : decode cX0_stepAt 13 = .ok (.getfield 15, 3) := by decide +kernel
theorem dX0_stepAt_16 : decode cX0_stepAt 16 = .ok (.invokestatic 19, 3) := by decide +kernel
theorem dX0_stepAt_19 : decode cX0_stepAt 19 = .ok (.invokestatic 25, 3) := by decide +kernel
theorem dX0_stepAt_22 : decode cX0_stepAt 22 = .ok (.goto 4, 3) := by decide +kernel
theorem dX0_stepAt_25 : decode cX0_stepAt 25 = .ok (.iconst (-1), 1) := by decide +kernel
theorem dX0_stepAt_26 : decode cX0_stepAt 26 = .ok (.ireturn, 1) := by decide +kernel
set_option maxRecDepth 20000 in
theorem ggX0_read_X0_items : GoodIn wsX0_read wsX0_items := goodIn_r _ [6, 7, 8, 9, 5, 10, 11, 12, 13, 14, 15, 16, 17, 18, 19, 20, 21, 22, 23, 24, 25, 26, 27, 28, 29, 30, 31, 32, 33, 34, 35, 36, 37, 38, 39, 2, 3, 4, 40, 41, 42, 43, 44, 45, 46, 47, 1, 48, 49, 50, 51, 52, 53, 54, 55, 56, 57, 58, 59, 60, 61, 62, 63, 64, 65, 66, 67, 70, 71, 72, 73, 74, 75, 68, 69] (by decide +kernel) (by decide +kernel)
set_option maxRecDepth 20000 in
theorem gX0_read_X0_items : GoodIn wsX0_read (wsV RX0 29 RX0 yX0_items wsX0_items) := goodIn_app (goodIn_of _ (by decide +kernel)) ggX0_read_X0_items
set_option maxRecDepth 20000 in
theorem ggX0_read_X7_isFine : GoodIn wsX0_read wsX7_isFine := goodIn_r _ [14, 15, 70, 71, 72, 73, 74, 75] (by decide +kernel) (by decide +kernel)
set_option maxRecDepth 20000 in
theorem gX0_read_X7_isFine : GoodIn wsX0_read (wsV RX0 33 RX7 yX7_isFine wsX7_isFine) := goodIn_app (goodIn_of _ (by decide +kernel)) ggX0_read_X7_isFine
set_option maxRecDepth 20000 in
theorem ggX0_read_X7_look : GoodIn wsX0_read wsX7_look := goodIn_r _ [19, 20, 21, 22, 23, 24, 25, 70, 71, 72, 73, 74, 75] (by decide +kernel) (by decide +kernel)
set_option maxRecDepth 20000 in
theorem gX0_read_X7_look : GoodIn wsX0_read (wsV RX0 39 RX7 yX7_look wsX7_look) := goodIn_app (goodIn_of _ (by decide +kernel)) ggX0_read_X7_look
set_option maxRecDepth 20000 in
theorem ggX0_read_X7_fail : GoodIn wsX0_read wsX7_fail := goodIn_r _ [30, 20, 31, 32, 33, 13, 34, 15, 35, 70, 71, 72, 73, 74, 75] (by decide +kernel) (by decide +kernel)
set_option maxRecDepth 20000 in
theorem gX0_read_X7_fail : GoodIn wsX0_read (wsV RX0 43 RX7 yX7_fail wsX7_fail) := goodIn_app (goodIn_of _ (by decide +kernel)) ggX0_read_X7_fail
theorem dX0_read_0 : decode cX0_read 0 = .ok (.aload_n 0, 1) := by decide +kernel
theorem dX0_read_1 : decode cX0_read 1 = .ok (.iconst 0, 1) := by decide +kernel
theorem dX0_read_2 : decode cX0_read 2 = .ok (.putfield 15, 3) := by decide +kernel
theorem dX0_read_5 : decode cX0_read 5 = .ok (.aload_n 0, 1) := by decide +kernel
theorem dX0_read_6 : decode cX0_read 6 = .ok (.aload_n 1, 1) := by decide +kernel
theorem dX0_read_7 : decode cX0_read 7 = .ok (.iconst 0, 1) := by decide +kernel
theorem dX0_read_8 : decode cX0_read 8 = .ok (.invokevirtual 29, 3) := by decide +kernel
theorem dX0_read_11 : decode cX0_read 11 = .ok (.aload_n 1, 1) := by decide +kernel
theorem dX0_read_12 : decode cX0_read 12 = .ok (.invokevirtual 33, 3) := by decide +kernel
theorem dX0_read_15 : decode cX0_read 15 = .ok (.ifCond .eq 16, 3) := by decide +kernel
theorem dX0_read_18 : decode cX0_read 18 = .ok (.aload_n 1, 1) := by decide +kernel
theorem dX0_read_19 : decode cX0_read 19 = .ok (.invokevirtual 39, 3) := by decide +kernel
theorem dX0_read_22 : decode cX0_read 22 = .ok (.iconst (-1), 1) := by decide +kernel
theorem dX0_read_23 : decode cX0_read 23 = .ok (.if_icmp .eq 8, 3) := by decide +kernel
theorem dX0_read_26 : decode cX0_read 26 = .ok (.aload_n 1, 1) := by decide +kernel
theorem dX0_read_27 : decode cX0_read 27 = .ok (.iconst 1, 1) := by decide +kernel
theorem dX0_read_28 : decode cX0_read 28 = .ok (.invokevirtual 43, 3) := by decide +kernel
theorem dX0_read_31 : decode cX0_read 31 = .ok (.return_, 1) := by decide +kernel
set_option maxRecDepth 20000 in
theorem ggX0_items_X0_item : GoodIn wsX0_items wsX0_item := goodIn_r _ [45, 46, 47, 48, 49, 50, 8, 51, 15, 11, 12, 13, 14, 16, 17, 18, 19, 20, 52, 53, 31, 32, 33, 34, 54, 55, 56, 4, 57, 58, 59, 60, 5, 6, 7, 9, 10, 61, 27, 28, 29, 30, 62, 63, 64, 65, 66, 22, 23, 24, 25, 26, 21, 35, 36, 37, 38, 39, 40, 41, 42, 43, 44, 0, 1, 2, 3, 67, 68, 69, 70, 71, 72, 73, 74] (by decide +kernel) (by decide +kernel)
set_option maxRecDepth 20000 in
theorem gX0_items_X0_item : GoodIn wsX0_items (wsV RX0 47 RX0 yX0_item wsX0_item) := goodIn_app (goodIn_of _ (by decide +kernel)) ggX0_items_X0_item
set_option maxRecDepth 20000 in
theorem ggX0_items_X7_isFine : GoodIn wsX0_items wsX7_isFine := goodIn_r _ [9, 10, 67, 68, 69, 70, 71, 72] (by decide +kernel) (by decide +kernel)
set_option maxRecDepth 20000 in
theorem gX0_items_X7_isFine : GoodIn wsX0_items (wsV RX0 33 RX7 yX7_isFine wsX7_isFine) := goodIn_app (goodIn_of _ (by decide +kernel)) ggX0_items_X7_isFine
set_option maxRecDepth 20000 in
theorem ggX0_items_X7_look : GoodIn wsX0_items wsX7_look := goodIn_r _ [14, 15, 16, 17, 18, 19, 20, 67, 68, 69, 70, 71, 72] (by decide +kernel) (by decide +kernel)
set_option maxRecDepth 20000 in
theorem gX0_items_X7_look : GoodIn wsX0_items (wsV RX0 39 RX7 yX7_look wsX7_look) := goodIn_app (goodIn_of _ (by decide +kernel)) ggX0_items_X7_look
theorem dX0_items_0 : decode cX0_items 0 = .ok (.iconst 1, 1) := by decide +kernel
theorem dX0_items_1 : decode cX0_items 1 = .ok (.istore_n 3, 1) := by decide +kernel
theorem dX0_items_2 : decode cX0_items 2 = .ok (.iconst 0, 1) := by decide +kernel
theorem dX0_items_3 : decode cX0_items 3 = .ok (.istore 4, 2) := by decide +kernel
theorem dX0_items_5 : decode cX0_items 5 = .ok (.iload_n 3, 1) := by decide +kernel
theorem dX0_items_6 : decode cX0_items 6 = .ok (.ifCond .eq 52, 3) := by decide +kernel
theorem dX0_items_9 : decode cX0_items 9 = .ok (.iload 4, 2) := by decide +kernel
theorem dX0_items_11 : decode cX0_items 11 = .ok (.bipush 60, 2) := by decide +kernel
theorem dX0_items_13 : decode cX0_items 13 = .ok (.if_icmp .ge 45, 3) := by decide +kernel
theorem dX0_items_16 : decode cX0_items 16 = .ok (.aload_n 0, 1) := by decide +kernel
theorem dX0_items_17 : decode cX0_items 17 = .ok (.aload_n 1, 1) := by decide +kernel
theorem dX0_items_18 : decode cX0_items 18 = .ok (.iload_n 2, 1) := by decide +kernel
theorem dX0_items_19 : decode cX0_items 19 = .ok (.invokevirtual 47, 3) := by decide +kernel
theorem dX0_items_22 : decode cX0_items 22 = .ok (.aload_n 1, 1) := by decide +kernel
theorem dX0_items_23 : decode cX0_items 23 = .ok (.invokevirtual 33, 3) := by decide +kernel
theorem dX0_items_26 : decode cX0_items 26 = .ok (.ifCond .eq 24, 3) := by decide +kernel
theorem dX0_items_29 : decode cX0_items 29 = .ok (.aload_n 1, 1) := by decide +kernel
theorem dX0_items_30 : decode cX0_items 30 = .ok (.invokevirtual 39, 3) := by decide +kernel
theorem dX0_items_33 : decode cX0_items 33 = .ok (.iconst (-1), 1) := by decide +kernel
theorem dX0_items_34 : decode cX0_items 34 = .ok (.if_icmp .eq 16, 3) := by decide +kernel
theorem dX0_items_37 : decode cX0_items 37 = .ok (.aload_n 1, 1) := by decide +kernel
theorem dX0_items_38 : decode cX0_items 38 = .ok (.invokevirtual 39, 3) := by decide +kernel
theorem dX0_items_41 : decode cX0_items 41 = .ok (.bipush 41, 2) := by decide +kernel
theorem dX0_items_43 : decode cX0_items 43 = .ok (.if_icmp .eq 7, 3) := by decide +kernel
theorem dX0_items_46 : decode cX0_items 46 = .ok (.iconst 1, 1) := by decide +kernel
theorem dX0_items_47 : decode cX0_items 47 = .ok (.goto 4, 3) := by decide +kernel
theorem dX0_items_50 : decode cX0_items 50 = .ok (.iconst 0, 1) := by decide +kernel
theorem dX0_items_51 : decode cX0_items 51 = .ok (.istore_n 3, 1) := by decide +kernel
theorem dX0_items_52 : decode cX0_items 52 = .ok (.iinc 4 1, 3) := by decide +kernel
theorem dX0_items_55 : decode cX0_items 55 = .ok (.goto (-50), 3) := by decide +kernel
theorem dX0_items_58 : decode cX0_items 58 = .ok (.return_, 1) := by decide +kernel
set_option maxRecDepth 20000 in
theorem ggX0_item_X7_reader : GoodIn wsX0_item wsX7_reader := goodIn_r _ [7, 8, 67, 68, 69, 70, 71, 72] (by decide +kernel) (by decide +kernel)
set_option maxRecDepth 20000 in
theorem gX0_item_X7_reader : GoodIn wsX0_item (wsV RX0 50 RX7 yX7_reader wsX7_reader) := goodIn_app (goodIn_of _ (by decide +kernel)) ggX0_item_X7_reader
set_option maxRecDepth 20000 in
theorem ggX0_item_X7_look : GoodIn wsX0_item wsX7_look := goodIn_r _ [12, 8, 13, 14, 15, 16, 17, 67, 68, 69, 70, 71, 72] (by decide +kernel) (by decide +kernel)
set_option maxRecDepth 20000 in
theorem gX0_item_X7_look : GoodIn wsX0_item (wsV RX0 39 RX7 yX7_look wsX7_look) := goodIn_app (goodIn_of _ (by decide +kernel)) ggX0_item_X7_look
set_option maxRecDepth 20000 in
theorem ggX0_item_X9_within : GoodIn wsX0_item wsX9_within := goodIn_r _ [19] (by decide +kernel) (by decide +kernel)
set_option maxRecDepth 20000 in
theorem gX0_item_X9_within_n53 : GoodIn wsX0_item (wsX9_within) := ggX0_item_X9_within
set_option maxRecDepth 20000 in
theorem ggX0_item_X7_step : GoodIn wsX0_item wsX7_step := goodIn_r _ [23, 8, 67, 68, 69, 70, 71, 72] (by decide +kernel) (by decide +kernel)
set_option maxRecDepth 20000 in
theorem gX0_item_X7_step : GoodIn wsX0_item (wsV RX0 57 RX7 yX7_step wsX7_step) := goodIn_app (goodIn_of _ (by decide +kernel)) ggX0_item_X7_step
set_option maxRecDepth 20000 in
theorem ggX0_item_X0_group : GoodIn wsX0_item wsX0_group := goodIn_r _ [52, 47, 48, 49, 6, 50, 8, 51, 38, 39, 40, 36, 41, 20, 21, 22, 23, 53, 54, 55, 27, 32, 33, 34, 35, 56, 57, 58, 59, 60, 10, 11, 12, 13, 14, 15, 16, 17, 61, 62, 0, 1, 2, 3, 4, 5, 7, 9, 18, 19, 24, 25, 26, 28, 29, 30, 31, 37, 42, 43, 44, 45, 46, 63, 64, 65, 66, 67, 68, 69, 70, 71, 72, 73, 74] (by decide +kernel) (by decide +kernel)
set_option maxRecDepth 20000 in
theorem gX0_item_X0_group : GoodIn wsX0_item (wsV RX0 60 RX0 yX0_group wsX0_group) := goodIn_app (goodIn_of _ (by decide +kernel)) ggX0_item_X0_group
set_option maxRecDepth 20000 in
theorem ggX0_item_X0_repeat : GoodIn wsX0_item wsX0_repeat := goodIn_r _ [31, 1, 2, 32, 33, 34, 6, 35, 36, 37, 38, 39, 40, 41, 15, 16, 17, 42, 43, 73, 74, 67, 68, 69, 70, 71, 72] (by decide +kernel) (by decide +kernel)
set_option maxRecDepth 20000 in
theorem gX0_item_X0_repeat : GoodIn wsX0_item (wsV RX0 63 RX0 yX0_repeat wsX0_repeat) := goodIn_app (goodIn_of _ (by decide +kernel)) ggX0_item_X0_repeat
set_option maxRecDepth 20000 in
theorem ggX0_item_X7_placeOf : GoodIn wsX0_item wsX7_placeOf := goodIn_r _ [46, 18, 16, 19] (by decide +kernel) (by decide +kernel)
set_option maxRecDepth 20000 in
theorem gX0_item_X7_placeOf : GoodIn wsX0_item (va_wsS RX0 67 yX7_placeOf wsX7_placeOf) := goodIn_app (goodIn_of _ (by decide +kernel)) ggX0_item_X7_placeOf
set_option maxRecDepth 20000 in
theorem ggX0_item_X7_failAt : GoodIn wsX0_item wsX7_failAt := goodIn_r _ [40, 36, 41, 67, 68, 69, 70, 71, 72] (by decide +kernel) (by decide +kernel)
set_option maxRecDepth 20000 in
theorem gX0_item_X7_failAt : GoodIn wsX0_item (wsV RX0 71 RX7 yX7_failAt wsX7_failAt) := goodIn_app (goodIn_of _ (by decide +kernel)) ggX0_item_X7_failAt
set_option maxRecDepth 20000 in
theorem ggX0_item_X9_put : GoodIn wsX0_item wsX9_put := goodIn_r _ [43] (by decide +kernel) (by decide +kernel)
set_option maxRecDepth 20000 in
theorem gX0_item_X9_put_n75 : GoodIn wsX0_item (wsX9_put) := ggX0_item_X9_put
set_option maxRecDepth 20000 in
theorem ggX0_item_X7_fail : GoodIn wsX0_item wsX7_fail := goodIn_r _ [50, 8, 51, 38, 39, 6, 40, 36, 41, 67, 68, 69, 70, 71, 72] (by decide +kernel) (by decide +kernel)
set_option maxRecDepth 20000 in
theorem gX0_item_X7_fail : GoodIn wsX0_item (wsV RX0 43 RX7 yX7_fail wsX7_fail) := goodIn_app (goodIn_of _ (by decide +kernel)) ggX0_item_X7_fail
theorem dX0_item_0 : decode cX0_item 0 = .ok (.aload_n 1, 1) := by decide +kernel
theorem dX0_item_1 : decode cX0_item 1 = .ok (.invokevirtual 50, 3) := by decide +kernel
theorem dX0_item_4 : decode cX0_item 4 = .ok (.istore_n 3, 1) := by decide +kernel
theorem dX0_item_5 : decode cX0_item 5 = .ok (.aload_n 0, 1) := by decide +kernel
theorem dX0_item_6 : decode cX0_item 6 = .ok (.getfield 15, 3) := by decide +kernel
theorem dX0_item_9 : decode cX0_item 9 = .ok (.istore 4, 2) := by decide +kernel
theorem dX0_item_11 : decode cX0_item 11 = .ok (.iconst 1, 1) := by decide +kernel
theorem dX0_item_12 : decode cX0_item 12 = .ok (.istore 5, 2) := by decide +kernel
theorem dX0_item_14 : decode cX0_item 14 = .ok (.aload_n 1, 1) := by decide +kernel
theorem dX0_item_15 : decode cX0_item 15 = .ok (.invokevirtual 39, 3) := by decide +kernel
theorem dX0_item_18 : decode cX0_item 18 = .ok (.bipush 50, 2) := by decide +kernel
theorem dX0_item_20 : decode cX0_item 20 = .ok (.bipush 57, 2) := by decide +kernel
theorem dX0_item_22 : decode cX0_item 22 = .ok (.invokestatic 53, 3) := by decide +kernel
theorem dX0_item_25 : decode cX0_item 25 = .ok (.ifCond .eq 16, 3) := by decide +kernel
theorem dX0_item_28 : decode cX0_item 28 = .ok (.aload_n 1, 1) := by decide +kernel
theorem dX0_item_29 : decode cX0_item 29 = .ok (.invokevirtual 39, 3) := by decide +kernel
theorem dX0_item_32 : decode cX0_item 32 = .ok (.bipush 48, 2) := by decide +kernel
theorem dX0_item_34 : decode cX0_item 34 = .ok (.isub, 1) := by decide +kernel
theorem dX0_item_35 : decode cX0_item 35 = .ok (.istore 5, 2) := by decide +kernel
theorem dX0_item_37 : decode cX0_item 37 = .ok (.aload_n 1, 1) := by decide +kernel
theorem dX0_item_38 : decode cX0_item 38 = .ok (.invokevirtual 57, 3) := by decide +kernel
theorem dX0_item_41 : decode cX0_item 41 = .ok (.aload_n 1, 1) := by decide +kernel
theorem dX0_item_42 : decode cX0_item 42 = .ok (.invokevirtual 39, 3) := by decide +kernel
theorem dX0_item_45 : decode cX0_item 45 = .ok (.istore 6, 2) := by decide +kernel
theorem dX0_item_47 : decode cX0_item 47 = .ok (.iload 6, 2) := by decide +kernel
theorem dX0_item_49 : decode cX0_item 49 = .ok (.bipush 40, 2) := by decide +kernel
theorem dX0_item_51 : decode cX0_item 51 = .ok (.if_icmp .ne 24, 3) := by decide +kernel
theorem dX0_item_54 : decode cX0_item 54 = .ok (.aload_n 0, 1) := by decide +kernel
theorem dX0_item_55 : decode cX0_item 55 = .ok (.aload_n 1, 1) := by decide +kernel
theorem dX0_item_56 : decode cX0_item 56 = .ok (.iload_n 2, 1) := by decide +kernel
theorem dX0_item_57 : decode cX0_item 57 = .ok (.invokevirtual 60, 3) := by decide +kernel
theorem dX0_item_60 : decode cX0_item 60 = .ok (.aload_n 0, 1) := by decide +kernel
theorem dX0_item_61 : decode cX0_item 61 = .ok (.aload_n 1, 1) := by decide +kernel
theorem dX0_item_62 : decode cX0_item 62 = .ok (.iload 4, 2) := by decide +kernel
theorem dX0_item_64 : decode cX0_item 64 = .ok (.iload 5, 2) := by decide +kernel
theorem dX0_item_66 : decode cX0_item 66 = .ok (.iconst 1, 1) := by decide +kernel
theorem dX0_item_67 : decode cX0_item 67 = .ok (.isub, 1) := by decide +kernel
theorem dX0_item_68 : decode cX0_item 68 = .ok (.iload_n 3, 1) := by decide +kernel
theorem dX0_item_69 : decode cX0_item 69 = .ok (.invokevirtual 63, 3) := by decide +kernel
theorem dX0_item_72 : decode cX0_item 72 = .ok (.goto 97, 3) := by decide +kernel
theorem dX0_item_75 : decode cX0_item 75 = .ok (.iload 6, 2) := by decide +kernel
theorem dX0_item_77 : decode cX0_item 77 = .ok (.bipush 46, 2) := by decide +kernel
theorem dX0_item_79 : decode cX0_item 79 = .ok (.if_icmp .eq 12, 3) := by decide +kernel
theorem dX0_item_82 : decode cX0_item 82 = .ok (.iload 6, 2) := by decide +kernel
theorem dX0_item_84 : decode cX0_item 84 = .ok (.invokestatic 67, 3) := by decide +kernel
theorem dX0_item_87 : decode cX0_item 87 = .ok (.iconst (-1), 1) := by decide +kernel
theorem dX0_item_88 : decode cX0_item 88 = .ok (.if_icmp .eq 76, 3) := by decide +kernel
theorem dX0_item_91 : decode cX0_item 91 = .ok (.aload_n 0, 1) := by decide +kernel
theorem dX0_item_92 : decode cX0_item 92 = .ok (.getfield 15, 3) := by decide +kernel
theorem dX0_item_95 : decode cX0_item 95 = .ok (.bipush 48, 2) := by decide +kernel
theorem dX0_item_97 : decode cX0_item 97 = .ok (.if_icmp .lt 11, 3) := by decide +kernel
theorem dX0_item_100 : decode cX0_item 100 = .ok (.aload_n 1, 1) := by decide +kernel
theorem dX0_item_101 : decode cX0_item 101 = .ok (.bipush 6, 2) := by decide +kernel
theorem dX0_item_103 : decode cX0_item 103 = .ok (.iload_n 3, 1) := by decide +kernel
theorem dX0_item_104 : decode cX0_item 104 = .ok (.invokevirtual 71, 3) := by decide +kernel
theorem dX0_item_107 : decode cX0_item 107 = .ok (.return_, 1) := by decide +kernel
theorem dX0_item_108 : decode cX0_item 108 = .ok (.aload_n 0, 1) := by decide +kernel
theorem dX0_item_109 : decode cX0_item 109 = .ok (.getfield 11, 3) := by decide +kernel
theorem dX0_item_112 : decode cX0_item 112 = .ok (.aload_n 0, 1) := by decide +kernel
theorem dX0_item_113 : decode cX0_item 113 = .ok (.getfield 15, 3) := by decide +kernel
theorem dX0_item_116 : decode cX0_item 116 = .ok (.iload 6, 2) := by decide +kernel
theorem dX0_item_118 : decode cX0_item 118 = .ok (.bipush 46, 2) := by decide +kernel
theorem dX0_item_120 : decode cX0_item 120 = .ok (.if_icmp .ne 7, 3) := by decide +kernel
theorem dX0_item_123 : decode cX0_item 123 = .ok (.iconst (-1), 1) := by decide +kernel
theorem dX0_item_124 : decode cX0_item 124 = .ok (.goto 8, 3) := by decide +kernel
theorem dX0_item_127 : decode cX0_item 127 = .ok (.iload 6, 2) := by decide +kernel
theorem dX0_item_129 : decode cX0_item 129 = .ok (.invokestatic 67, 3) := by decide +kernel
theorem dX0_item_132 : decode cX0_item 132 = .ok (.invokestatic 75, 3) := by decide +kernel
theorem dX0_item_135 : decode cX0_item 135 = .ok (.aload_n 0, 1) := by decide +kernel
theorem dX0_item_136 : decode cX0_item 136 = .ok (.dup, 1) := by decide +kernel
theorem dX0_item_137 : decode cX0_item 137 = .ok (.getfield 15, 3) := by decide +kernel
theorem dX0_item_140 : decode cX0_item 140 = .ok (.iconst 1, 1) := by decide +kernel
theorem dX0_item_141 : decode cX0_item 141 = .ok (.iadd, 1) := by decide +kernel
theorem dX0_item_142 : decode cX0_item 142 = .ok (.putfield 15, 3) := by decide +kernel
theorem dX0_item_145 : decode cX0_item 145 = .ok (.aload_n 1, 1) := by decide +kernel
theorem dX0_item_146 : decode cX0_item 146 = .ok (.invokevirtual 57, 3) := by decide +kernel
theorem dX0_item_149 : decode cX0_item 149 = .ok (.aload_n 0, 1) := by decide +kernel
theorem dX0_item_150 : decode cX0_item 150 = .ok (.aload_n 1, 1) := by decide +kernel
theorem dX0_item_151 : decode cX0_item 151 = .ok (.iload 4, 2) := by decide +kernel
theorem dX0_item_153 : decode cX0_item 153 = .ok (.iload 5, 2) := by decide +kernel
theorem dX0_item_155 : decode cX0_item 155 = .ok (.iconst 1, 1) := by decide +kernel
theorem dX0_item_156 : decode cX0_item 156 = .ok (.isub, 1) := by decide +kernel
theorem dX0_item_157 : decode cX0_item 157 = .ok (.iload_n 3, 1) := by decide +kernel
theorem dX0_item_158 : decode cX0_item 158 = .ok (.invokevirtual 63, 3) := by decide +kernel
theorem dX0_item_161 : decode cX0_item 161 = .ok (.goto 8, 3) := by decide +kernel
theorem dX0_item_164 : decode cX0_item 164 = .ok (.aload_n 1, 1) := by decide +kernel
theorem dX0_item_165 : decode cX0_item 165 = .ok (.iconst 1, 1) := by decide +kernel
theorem dX0_item_166 : decode cX0_item 166 = .ok (.invokevirtual 43, 3) := by decide +kernel
theorem dX0_item_169 : decode cX0_item 169 = .ok (.return_, 1) := by decide +kernel
set_option maxRecDepth 20000 in
theorem ggX0_group_X7_fail : GoodIn wsX0_group wsX7_fail := goodIn_r _ [5, 6, 7, 8, 9, 4, 10, 11, 12, 67, 68, 69, 70, 71, 72] (by decide +kernel) (by decide +kernel)
set_option maxRecDepth 20000 in
theorem gX0_group_X7_fail : GoodIn wsX0_group (wsV RX0 43 RX7 yX7_fail wsX7_fail) := goodIn_app (goodIn_of _ (by decide +kernel)) ggX0_group_X7_fail
set_option maxRecDepth 20000 in
theorem ggX0_group_X7_step : GoodIn wsX0_group wsX7_step := goodIn_r _ [16, 6, 67, 68, 69, 70, 71, 72] (by decide +kernel) (by decide +kernel)
set_option maxRecDepth 20000 in
theorem gX0_group_X7_step : GoodIn wsX0_group (wsV RX0 57 RX7 yX7_step wsX7_step) := goodIn_app (goodIn_of _ (by decide +kernel)) ggX0_group_X7_step
set_option maxRecDepth 20000 in
theorem ggX0_group_X0_items : GoodIn wsX0_group wsX0_items := goodIn_r _ [63, 64, 65, 66, 20, 21, 22, 23, 4, 24, 11, 47, 30, 31, 32, 6, 33, 34, 35, 36, 37, 0, 1, 2, 3, 5, 7, 8, 9, 10, 12, 13, 14, 15, 16, 17, 18, 19, 25, 26, 27, 28, 29, 38, 39, 40, 41, 42, 43, 44, 45, 46, 48, 49, 50, 51, 52, 53, 54, 55, 56, 57, 58, 59, 60, 61, 62, 67, 68, 69, 70, 71, 72, 73, 74] (by decide +kernel) (by decide +kernel)
set_option maxRecDepth 20000 in
theorem gX0_group_X0_items : GoodIn wsX0_group (wsV RX0 29 RX0 yX0_items wsX0_items) := goodIn_app (goodIn_of _ (by decide +kernel)) ggX0_group_X0_items
set_option maxRecDepth 20000 in
theorem ggX0_group_X7_isFine : GoodIn wsX0_group wsX7_isFine := goodIn_r _ [24, 11, 67, 68, 69, 70, 71, 72] (by decide +kernel) (by decide +kernel)
set_option maxRecDepth 20000 in
theorem gX0_group_X7_isFine : GoodIn wsX0_group (wsV RX0 33 RX7 yX7_isFine wsX7_isFine) := goodIn_app (goodIn_of _ (by decide +kernel)) ggX0_group_X7_isFine
set_option maxRecDepth 20000 in
theorem ggX0_group_X7_take : GoodIn wsX0_group wsX7_take := goodIn_r _ [28, 29, 30, 31, 4, 32, 6, 33, 34, 35, 36, 37, 38, 2, 3, 5, 7, 8, 9, 10, 11, 12, 39, 14, 15, 16, 67, 68, 69, 70, 71, 72] (by decide +kernel) (by decide +kernel)
set_option maxRecDepth 20000 in
theorem gX0_group_X7_take : GoodIn wsX0_group (wsV RX0 79 RX7 yX7_take wsX7_take) := goodIn_app (goodIn_of _ (by decide +kernel)) ggX0_group_X7_take
theorem dX0_group_0 : decode cX0_group 0 = .ok (.iload_n 2, 1) := by decide +kernel
theorem dX0_group_1 : decode cX0_group 1 = .ok (.iconst 2, 1) := by decide +kernel
theorem dX0_group_2 : decode cX0_group 2 = .ok (.if_icmp .lt 9, 3) := by decide +kernel
theorem dX0_group_5 : decode cX0_group 5 = .ok (.aload_n 1, 1) := by decide +kernel
theorem dX0_group_6 : decode cX0_group 6 = .ok (.iconst 5, 1) := by decide +kernel
theorem dX0_group_7 : decode cX0_group 7 = .ok (.invokevirtual 43, 3) := by decide +kernel
theorem dX0_group_10 : decode cX0_group 10 = .ok (.return_, 1) := by decide +kernel
theorem dX0_group_11 : decode cX0_group 11 = .ok (.aload_n 1, 1) := by decide +kernel
theorem dX0_group_12 : decode cX0_group 12 = .ok (.invokevirtual 57, 3) := by decide +kernel
theorem dX0_group_15 : decode cX0_group 15 = .ok (.aload_n 0, 1) := by decide +kernel
theorem dX0_group_16 : decode cX0_group 16 = .ok (.aload_n 1, 1) := by decide +kernel
theorem dX0_group_17 : decode cX0_group 17 = .ok (.iload_n 2, 1) := by decide +kernel
theorem dX0_group_18 : decode cX0_group 18 = .ok (.iconst 1, 1) := by decide +kernel
theorem dX0_group_19 : decode cX0_group 19 = .ok (.iadd, 1) := by decide +kernel
theorem dX0_group_20 : decode cX0_group 20 = .ok (.invokevirtual 29, 3) := by decide +kernel
theorem dX0_group_23 : decode cX0_group 23 = .ok (.aload_n 1, 1) := by decide +kernel
theorem dX0_group_24 : decode cX0_group 24 = .ok (.invokevirtual 33, 3) := by decide +kernel
theorem dX0_group_27 : decode cX0_group 27 = .ok (.ifCond .eq 10, 3) := by decide +kernel
theorem dX0_group_30 : decode cX0_group 30 = .ok (.aload_n 1, 1) := by decide +kernel
theorem dX0_group_31 : decode cX0_group 31 = .ok (.bipush 41, 2) := by decide +kernel
theorem dX0_group_33 : decode cX0_group 33 = .ok (.invokevirtual 79, 3) := by decide +kernel
theorem dX0_group_36 : decode cX0_group 36 = .ok (.pop, 1) := by decide +kernel
theorem dX0_group_37 : decode cX0_group 37 = .ok (.return_, 1) := by decide +kernel
set_option maxRecDepth 20000 in
theorem ggX0_repeat_X7_isFine : GoodIn wsX0_repeat wsX7_isFine := goodIn_r _ [7, 8, 21, 22, 23, 24, 25, 26] (by decide +kernel) (by decide +kernel)
set_option maxRecDepth 20000 in
theorem gX0_repeat_X7_isFine : GoodIn wsX0_repeat (wsV RX0 33 RX7 yX7_isFine wsX7_isFine) := goodIn_app (goodIn_of _ (by decide +kernel)) ggX0_repeat_X7_isFine
set_option maxRecDepth 20000 in
theorem ggX0_repeat_X7_failAt : GoodIn wsX0_repeat wsX7_failAt := goodIn_r _ [12, 8, 13, 21, 22, 23, 24, 25, 26] (by decide +kernel) (by decide +kernel)
set_option maxRecDepth 20000 in
theorem gX0_repeat_X7_failAt : GoodIn wsX0_repeat (wsV RX0 71 RX7 yX7_failAt wsX7_failAt) := goodIn_app (goodIn_of _ (by decide +kernel)) ggX0_repeat_X7_failAt
set_option maxRecDepth 20000 in
theorem ggX0_repeat_X9_at : GoodIn wsX0_repeat wsX9_at := goodIn_r _ [16] (by decide +kernel) (by decide +kernel)
set_option maxRecDepth 20000 in
theorem gX0_repeat_X9_at_n25 : GoodIn wsX0_repeat (wsX9_at) := ggX0_repeat_X9_at
set_option maxRecDepth 20000 in
theorem ggX0_repeat_X9_put : GoodIn wsX0_repeat wsX9_put := goodIn_r _ [18] (by decide +kernel) (by decide +kernel)
set_option maxRecDepth 20000 in
theorem gX0_repeat_X9_put_n75 : GoodIn wsX0_repeat (wsX9_put) := ggX0_repeat_X9_put
theorem dX0_repeat_0 : decode cX0_repeat 0 = .ok (.aload_n 0, 1) := by decide +kernel
theorem dX0_repeat_1 : decode cX0_repeat 1 = .ok (.getfield 15, 3) := by decide +kernel
theorem dX0_repeat_4 : decode cX0_repeat 4 = .ok (.iload_n 2, 1) := by decide +kernel
theorem dX0_repeat_5 : decode cX0_repeat 5 = .ok (.isub, 1) := by decide +kernel
theorem dX0_repeat_6 : decode cX0_repeat 6 = .ok (.istore 5, 2) := by decide +kernel
theorem dX0_repeat_8 : decode cX0_repeat 8 = .ok (.aload_n 1, 1) := by decide +kernel
theorem dX0_repeat_9 : decode cX0_repeat 9 = .ok (.invokevirtual 33, 3) := by decide +kernel
theorem dX0_repeat_12 : decode cX0_repeat 12 = .ok (.ifCond .ne 4, 3) := by decide +kernel
theorem dX0_repeat_15 : decode cX0_repeat 15 = .ok (.return_, 1) := by decide +kernel
theorem dX0_repeat_16 : decode cX0_repeat 16 = .ok (.aload_n 0, 1) := by decide +kernel
theorem dX0_repeat_17 : decode cX0_repeat 17 = .ok (.getfield 15, 3) := by decide +kernel
theorem dX0_repeat_20 : decode cX0_repeat 20 = .ok (.iload 5, 2) := by decide +kernel
theorem dX0_repeat_22 : decode cX0_repeat 22 = .ok (.iload_n 3, 1) := by decide +kernel
theorem dX0_repeat_23 : decode cX0_repeat 23 = .ok (.imul, 1) := by decide +kernel
theorem dX0_repeat_24 : decode cX0_repeat 24 = .ok (.iadd, 1) := by decide +kernel
theorem dX0_repeat_25 : decode cX0_repeat 25 = .ok (.bipush 48, 2) := by decide +kernel
theorem dX0_repeat_27 : decode cX0_repeat 27 = .ok (.if_icmp .le 12, 3) := by decide +kernel
theorem dX0_repeat_30 : decode cX0_repeat 30 = .ok (.aload_n 1, 1) := by decide +kernel
theorem dX0_repeat_31 : decode cX0_repeat 31 = .ok (.bipush 6, 2) := by decide +kernel
theorem dX0_repeat_33 : decode cX0_repeat 33 = .ok (.iload 4, 2) := by decide +kernel
theorem dX0_repeat_35 : decode cX0_repeat 35 = .ok (.invokevirtual 71, 3) := by decide +kernel
theorem dX0_repeat_38 : decode cX0_repeat 38 = .ok (.return_, 1) := by decide +kernel
theorem dX0_repeat_39 : decode cX0_repeat 39 = .ok (.iconst 0, 1) := by decide +kernel
theorem dX0_repeat_40 : decode cX0_repeat 40 = .ok (.istore 6, 2) := by decide +kernel
theorem dX0_repeat_42 : decode cX0_repeat 42 = .ok (.iload 6, 2) := by decide +kernel
theorem dX0_repeat_44 : decode cX0_repeat 44 = .ok (.iload 5, 2) := by decide +kernel
theorem dX0_repeat_46 : decode cX0_repeat 46 = .ok (.iload_n 3, 1) := by decide +kernel
theorem dX0_repeat_47 : decode cX0_repeat 47 = .ok (.imul, 1) := by decide +kernel
theorem dX0_repeat_48 : decode cX0_repeat 48 = .ok (.if_icmp .ge 44, 3) := by decide +kernel
theorem dX0_repeat_51 : decode cX0_repeat 51 = .ok (.aload_n 0, 1) := by decide +kernel
theorem dX0_repeat_52 : decode cX0_repeat 52 = .ok (.getfield 11, 3) := by decide +kernel
theorem dX0_repeat_55 : decode cX0_repeat 55 = .ok (.aload_n 0, 1) := by decide +kernel
theorem dX0_repeat_56 : decode cX0_repeat 56 = .ok (.getfield 15, 3) := by decide +kernel
theorem dX0_repeat_59 : decode cX0_repeat 59 = .ok (.aload_n 0, 1) := by decide +kernel
theorem dX0_repeat_60 : decode cX0_repeat 60 = .ok (.getfield 11, 3) := by decide +kernel
theorem dX0_repeat_63 : decode cX0_repeat 63 = .ok (.aload_n 0, 1) := by decide +kernel
theorem dX0_repeat_64 : decode cX0_repeat 64 = .ok (.getfield 15, 3) := by decide +kernel
theorem dX0_repeat_67 : decode cX0_repeat 67 = .ok (.iload 5, 2) := by decide +kernel
theorem dX0_repeat_69 : decode cX0_repeat 69 = .ok (.isub, 1) := by decide +kernel
theorem dX0_repeat_70 : decode cX0_repeat 70 = .ok (.invokestatic 25, 3) := by decide +kernel
theorem dX0_repeat_73 : decode cX0_repeat 73 = .ok (.invokestatic 75, 3) := by decide +kernel
theorem dX0_repeat_76 : decode cX0_repeat 76 = .ok (.aload_n 0, 1) := by decide +kernel
theorem dX0_repeat_77 : decode cX0_repeat 77 = .ok (.dup, 1) := by decide +kernel
theorem dX0_repeat_78 : decode cX0_repeat 78 = .ok (.getfield 15, 3) := by decide +kernel
theorem dX0_repeat_81 : decode cX0_repeat 81 = .ok (.iconst 1, 1) := by decide +kernel
theorem dX0_repeat_82 : decode cX0_repeat 82 = .ok (.iadd, 1) := by decide +kernel
theorem dX0_repeat_83 : decode cX0_repeat 83 = .ok (.putfield 15, 3) := by decide +kernel
theorem dX0_repeat_86 : decode cX0_repeat 86 = .ok (.iinc 6 1, 3) := by decide +kernel
theorem dX0_repeat_89 : decode cX0_repeat 89 = .ok (.goto (-47), 3) := by decide +kernel
theorem dX0_repeat_92 : decode cX0_repeat 92 = .ok (.return_, 1) := by decide +kernel
theorem dX1_init_0 : decode cX1_init 0 = .ok (.aload_n 0, 1) := by decide +kernel
theorem dX1_init_1 : decode cX1_init 1 = .ok (.invokespecial 3, 3) := by decide +kernel
theorem dX1_init_4 : decode cX1_init 4 = .ok (.aload_n 0, 1) := by decide +kernel
theorem dX1_init_5 : decode cX1_init 5 = .ok (.iconst 0, 1) := by decide +kernel
theorem dX1_init_6 : decode cX1_init 6 = .ok (.putfield 9, 3) := by decide +kernel
theorem dX1_init_9 : decode cX1_init 9 = .ok (.aload_n 0, 1) := by decide +kernel
theorem dX1_init_10 : decode cX1_init 10 = .ok (.bipush 16, 2) := by decide +kernel
theorem dX1_init_12 : decode cX1_init 12 = .ok (.newarray .int, 2) := by decide +kernel
theorem dX1_init_14 : decode cX1_init 14 = .ok (.putfield 15, 3) := by decide +kernel
theorem dX1_init_17 : decode cX1_init 17 = .ok (.aload_n 0, 1) := by decide +kernel
theorem dX1_init_18 : decode cX1_init 18 = .ok (.bipush 16, 2) := by decide +kernel
theorem dX1_init_20 : decode cX1_init 20 = .ok (.newarray .int, 2) := by decide +kernel
theorem dX1_init_22 : decode cX1_init 22 = .ok (.putfield 19, 3) := by decide +kernel
theorem dX1_init_25 : decode cX1_init 25 = .ok (.aload_n 0, 1) := by decide +kernel
theorem dX1_init_26 : decode cX1_init 26 = .ok (.bipush 16, 2) := by decide +kernel
theorem dX1_init_28 : decode cX1_init 28 = .ok (.newarray .int, 2) := by decide +kernel
theorem dX1_init_30 : decode cX1_init 30 = .ok (.putfield 22, 3) := by decide +kernel
theorem dX1_init_33 : decode cX1_init 33 = .ok (.return_, 1) := by decide +kernel
set_option maxRecDepth 20000 in
theorem ggX1_isTold_X9_within : GoodIn wsX1_isTold wsX9_within := goodIn_r _ [4] (by decide +kernel) (by decide +kernel)
set_option maxRecDepth 20000 in
theorem gX1_isTold_X9_within_n25 : GoodIn wsX1_isTold (wsX9_within) := ggX1_isTold_X9_within
set_option maxRecDepth 20000 in
theorem ggX1_isTold_X9_has : GoodIn wsX1_isTold wsX9_has := goodIn_r _ [6, 7, 2, 3, 4] (by decide +kernel) (by decide +kernel)
set_option maxRecDepth 20000 in
theorem gX1_isTold_X9_has_n29 : GoodIn wsX1_isTold (wsX9_has) := ggX1_isTold_X9_has
theorem dX1_isTold_0 : decode cX1_isTold 0 = .ok (.iload_n 1, 1) := by decide +kernel
theorem dX1_isTold_1 : decode cX1_isTold 1 = .ok (.iconst 0, 1) := by decide +kernel
theorem dX1_isTold_2 : decode cX1_isTold 2 = .ok (.bipush 15, 2) := by decide +kernel
theorem dX1_isTold_4 : decode cX1_isTold 4 = .ok (.invokestatic 25, 3) := by decide +kernel
theorem dX1_isTold_7 : decode cX1_isTold 7 = .ok (.ifCond .eq 18, 3) := by decide +kernel
theorem dX1_isTold_10 : decode cX1_isTold 10 = .ok (.aload_n 0, 1) := by decide +kernel
theorem dX1_isTold_11 : decode cX1_isTold 11 = .ok (.getfield 9, 3) := by decide +kernel
theorem dX1_isTold_14 : decode cX1_isTold 14 = .ok (.iload_n 1, 1) := by decide +kernel
theorem dX1_isTold_15 : decode cX1_isTold 15 = .ok (.invokestatic 29, 3) := by decide +kernel
theorem dX1_isTold_18 : decode cX1_isTold 18 = .ok (.ifCond .eq 7, 3) := by decide +kernel
theorem dX1_isTold_21 : decode cX1_isTold 21 = .ok (.iconst 1, 1) := by decide +kernel
theorem dX1_isTold_22 : decode cX1_isTold 22 = .ok (.goto 4, 3) := by decide +kernel
theorem dX1_isTold_25 : decode cX1_isTold 25 = .ok (.iconst 0, 1) := by decide +kernel
theorem dX1_isTold_26 : decode cX1_isTold 26 = .ok (.ireturn, 1) := by decide +kernel
set_option maxRecDepth 20000 in
theorem ggX1_join_X9_at : GoodIn wsX1_join wsX9_at := goodIn_r _ [4] (by decide +kernel) (by decide +kernel)
set_option maxRecDepth 20000 in
theorem gX1_join_X9_at_n33 : GoodIn wsX1_join (wsX9_at) := ggX1_join_X9_at
set_option maxRecDepth 20000 in
theorem ggX1_join_X9_put : GoodIn wsX1_join wsX9_put := goodIn_r _ [6] (by decide +kernel) (by decide +kernel)
set_option maxRecDepth 20000 in
theorem gX1_join_X9_put_n37 : GoodIn wsX1_join (wsX9_put) := ggX1_join_X9_put
theorem dX1_join_0 : decode cX1_join 0 = .ok (.aload_n 0, 1) := by decide +kernel
theorem dX1_join_1 : decode cX1_join 1 = .ok (.getfield 15, 3) := by decide +kernel
theorem dX1_join_4 : decode cX1_join 4 = .ok (.iload_n 1, 1) := by decide +kernel
theorem dX1_join_5 : decode cX1_join 5 = .ok (.aload_n 0, 1) := by decide +kernel
theorem dX1_join_6 : decode cX1_join 6 = .ok (.getfield 15, 3) := by decide +kernel
theorem dX1_join_9 : decode cX1_join 9 = .ok (.iload_n 1, 1) := by decide +kernel
theorem dX1_join_10 : decode cX1_join 10 = .ok (.invokestatic 33, 3) := by decide +kernel
theorem dX1_join_13 : decode cX1_join 13 = .ok (.iconst 1, 1) := by decide +kernel
theorem dX1_join_14 : decode cX1_join 14 = .ok (.iload_n 2, 1) := by decide +kernel
theorem dX1_join_15 : decode cX1_join 15 = .ok (.ishl, 1) := by decide +kernel
theorem dX1_join_16 : decode cX1_join 16 = .ok (.ior, 1) := by decide +kernel
theorem dX1_join_17 : decode cX1_join 17 = .ok (.invokestatic 37, 3) := by decide +kernel
theorem dX1_join_20 : decode cX1_join 20 = .ok (.aload_n 0, 1) := by decide +kernel
theorem dX1_join_21 : decode cX1_join 21 = .ok (.getfield 15, 3) := by decide +kernel
theorem dX1_join_24 : decode cX1_join 24 = .ok (.iload_n 2, 1) := by decide +kernel
theorem dX1_join_25 : decode cX1_join 25 = .ok (.aload_n 0, 1) := by decide +kernel
theorem dX1_join_26 : decode cX1_join 26 = .ok (.getfield 15, 3) := by decide +kernel
theorem dX1_join_29 : decode cX1_join 29 = .ok (.iload_n 2, 1) := by decide +kernel
theorem dX1_join_30 : decode cX1_join 30 = .ok (.invokestatic 33, 3) := by decide +kernel
theorem dX1_join_33 : decode cX1_join 33 = .ok (.iconst 1, 1) := by decide +kernel
theorem dX1_join_34 : decode cX1_join 34 = .ok (.iload_n 1, 1) := by decide +kernel
theorem dX1_join_35 : decode cX1_join 35 = .ok (.ishl, 1) := by decide +kernel
theorem dX1_join_36 : decode cX1_join 36 = .ok (.ior, 1) := by decide +kernel
theorem dX1_join_37 : decode cX1_join 37 = .ok (.invokestatic 37, 3) := by decide +kernel
theorem dX1_join_40 : decode cX1_join 40 = .ok (.return_, 1) := by decide +kernel
set_option maxRecDepth 20000 in
theorem ggX1_part_X9_at : GoodIn wsX1_part wsX9_at := goodIn_r _ [4] (by decide +kernel) (by decide +kernel)
set_option maxRecDepth 20000 in
theorem gX1_part_X9_at_n33 : GoodIn wsX1_part (wsX9_at) := ggX1_part_X9_at
set_option maxRecDepth 20000 in
theorem ggX1_part_X9_put : GoodIn wsX1_part wsX9_put := goodIn_r _ [6] (by decide +kernel) (by decide +kernel)
set_option maxRecDepth 20000 in
theorem gX1_part_X9_put_n37 : GoodIn wsX1_part (wsX9_put) := ggX1_part_X9_put
theorem dX1_part_0 : decode cX1_part 0 = .ok (.aload_n 0, 1) := by decide +kernel
theorem dX1_part_1 : decode cX1_part 1 = .ok (.getfield 15, 3) := by decide +kernel
theorem dX1_part_4 : decode cX1_part 4 = .ok (.iload_n 1, 1) := by decide +kernel
theorem dX1_part_5 : decode cX1_part 5 = .ok (.aload_n 0, 1) := by decide +kernel
theorem dX1_part_6 : decode cX1_part 6 = .ok (.getfield 15, 3) := by decide +kernel
theorem dX1_part_9 : decode cX1_part 9 = .ok (.iload_n 1, 1) := by decide +kernel
theorem dX1_part_10 : decode cX1_part 10 = .ok (.invokestatic 33, 3) := by decide +kernel
theorem dX1_part_13 : decode cX1_part 13 = .ok (.iconst 1, 1) := by decide +kernel
theorem dX1_part_14 : decode cX1_part 14 = .ok (.iload_n 2, 1) := by decide +kernel
theorem dX1_part_15 : decode cX1_part 15 = .ok (.ishl, 1) := by decide +kernel
theorem dX1_part_16 : decode cX1_part 16 = .ok (.iconst (-1), 1) := by decide +kernel
theorem dX1_part_17 : decode cX1_part 17 = .ok (.ixor, 1) := by decide +kernel
theorem dX1_part_18 : decode cX1_part 18 = .ok (.iand, 1) := by decide +kernel
theorem dX1_part_19 : decode cX1_part 19 = .ok (.invokestatic 37, 3) := by decide +kernel
theorem dX1_part_22 : decode cX1_part 22 = .ok (.aload_n 0, 1) := by decide +kernel
theorem dX1_part_23 : decode cX1_part 23 = .ok (.getfield 15, 3) := by decide +kernel
theorem dX1_part_26 : decode cX1_part 26 = .ok (.iload_n 2, 1) := by decide +kernel
theorem dX1_part_27 : decode cX1_part 27 = .ok (.aload_n 0, 1) := by decide +kernel
theorem dX1_part_28 : decode cX1_part 28 = .ok (.getfield 15, 3) := by decide +kernel
theorem dX1_part_31 : decode cX1_part 31 = .ok (.iload_n 2, 1) := by decide +kernel
theorem dX1_part_32 : decode cX1_part 32 = .ok (.invokestatic 33, 3) := by decide +kernel
theorem dX1_part_35 : decode cX1_part 35 = .ok (.iconst 1, 1) := by decide +kernel
theorem dX1_part_36 : decode cX1_part 36 = .ok (.iload_n 1, 1) := by decide +kernel
theorem dX1_part_37 : decode cX1_part 37 = .ok (.ishl, 1) := by decide +kernel
theorem dX1_part_38 : decode cX1_part 38 = .ok (.iconst (-1), 1) := by decide +kernel
theorem dX1_part_39 : decode cX1_part 39 = .ok (.ixor, 1) := by decide +kernel
theorem dX1_part_40 : decode cX1_part 40 = .ok (.iand, 1) := by decide +kernel
theorem dX1_part_41 : decode cX1_part 41 = .ok (.invokestatic 37, 3) := by decide +kernel
theorem dX1_part_44 : decode cX1_part 44 = .ok (.return_, 1) := by decide +kernel
set_option maxRecDepth 20000 in
theorem ggX1_around_X9_at : GoodIn wsX1_around wsX9_at := goodIn_r _ [4] (by decide +kernel) (by decide +kernel)
set_option maxRecDepth 20000 in
theorem gX1_around_X9_at_n33 : GoodIn wsX1_around (wsX9_at) := ggX1_around_X9_at
theorem dX1_around_0 : decode cX1_around 0 = .ok (.aload_n 0, 1) := by decide +kernel
theorem dX1_around_1 : decode cX1_around 1 = .ok (.getfield 15, 3) := by decide +kernel
theorem dX1_around_4 : decode cX1_around 4 = .ok (.iload_n 1, 1) := by decide +kernel
theorem dX1_around_5 : decode cX1_around 5 = .ok (.invokestatic 33, 3) := by decide +kernel
theorem dX1_around_8 : decode cX1_around 8 = .ok (.iconst 1, 1) := by decide +kernel
theorem dX1_around_9 : decode cX1_around 9 = .ok (.iload_n 1, 1) := by decide +kernel
theorem dX1_around_10 : decode cX1_around 10 = .ok (.ishl, 1) := by decide +kernel
theorem dX1_around_11 : decode cX1_around 11 = .ok (.ior, 1) := by decide +kernel
theorem dX1_around_12 : decode cX1_around 12 = .ok (.ireturn, 1) := by decide +kernel
set_option maxRecDepth 20000 in
theorem ggX1_aroundAny_X9_has : GoodIn wsX1_aroundAny wsX9_has := goodIn_r _ [3, 4, 5, 2, 6] (by decide +kernel) (by decide +kernel)
set_option maxRecDepth 20000 in
theorem gX1_aroundAny_X9_has_n29 : GoodIn wsX1_aroundAny (wsX9_has) := ggX1_aroundAny_X9_has
set_option maxRecDepth 20000 in
theorem ggX1_aroundAny_X1_around : GoodIn wsX1_aroundAny wsX1_around := goodIn_r _ [11, 12, 13, 2, 14, 15, 16, 17, 18] (by decide +kernel) (by decide +kernel)
set_option maxRecDepth 20000 in
theorem gX1_aroundAny_X1_around : GoodIn wsX1_aroundAny (wsV RX1 41 RX1 yX1_around wsX1_around) := goodIn_app (goodIn_of _ (by decide +kernel)) ggX1_aroundAny_X1_around
theorem dX1_aroundAny_0 : decode cX1_aroundAny 0 = .ok (.iconst 0, 1) := by decide +kernel
theorem dX1_aroundAny_1 : decode cX1_aroundAny 1 = .ok (.istore_n 2, 1) := by decide +kernel
theorem dX1_aroundAny_2 : decode cX1_aroundAny 2 = .ok (.iconst 0, 1) := by decide +kernel
theorem dX1_aroundAny_3 : decode cX1_aroundAny 3 = .ok (.istore_n 3, 1) := by decide +kernel
theorem dX1_aroundAny_4 : decode cX1_aroundAny 4 = .ok (.iload_n 3, 1) := by decide +kernel
theorem dX1_aroundAny_5 : decode cX1_aroundAny 5 = .ok (.bipush 16, 2) := by decide +kernel
theorem dX1_aroundAny_7 : decode cX1_aroundAny 7 = .ok (.if_icmp .ge 25, 3) := by decide +kernel
theorem dX1_aroundAny_10 : decode cX1_aroundAny 10 = .ok (.iload_n 1, 1) := by decide +kernel
theorem dX1_aroundAny_11 : decode cX1_aroundAny 11 = .ok (.iload_n 3, 1) := by decide +kernel
theorem dX1_aroundAny_12 : decode cX1_aroundAny 12 = .ok (.invokestatic 29, 3) := by decide +kernel
theorem dX1_aroundAny_15 : decode cX1_aroundAny 15 = .ok (.ifCond .eq 11, 3) := by decide +kernel
theorem dX1_aroundAny_18 : decode cX1_aroundAny 18 = .ok (.iload_n 2, 1) := by decide +kernel
theorem dX1_aroundAny_19 : decode cX1_aroundAny 19 = .ok (.aload_n 0, 1) := by decide +kernel
theorem dX1_aroundAny_20 : decode cX1_aroundAny 20 = .ok (.iload_n 3, 1) := by decide +kernel
theorem dX1_aroundAny_21 : decode cX1_aroundAny 21 = .ok (.invokevirtual 41, 3) := by decide +kernel
theorem dX1_aroundAny_24 : decode cX1_aroundAny 24 = .ok (.ior, 1) := by decide +kernel
theorem dX1_aroundAny_25 : decode cX1_aroundAny 25 = .ok (.istore_n 2, 1) := by decide +kernel
theorem dX1_aroundAny_26 : decode cX1_aroundAny 26 = .ok (.iinc 3 1, 3) := by decide +kernel
theorem dX1_aroundAny_29 : decode cX1_aroundAny 29 = .ok (.goto (-25), 3) := by decide +kernel
theorem dX1_aroundAny_32 : decode cX1_aroundAny 32 = .ok (.iload_n 2, 1) := by decide +kernel
theorem dX1_aroundAny_33 : decode cX1_aroundAny 33 = .ok (.ireturn, 1) := by decide +kernel
set_option maxRecDepth 20000 in
theorem ggX1_measure_X9_has : GoodIn wsX1_measure wsX9_has := goodIn_r _ [4, 5, 6, 3, 7] (by decide +kernel) (by decide +kernel)
set_option maxRecDepth 20000 in
theorem gX1_measure_X9_has_n29 : GoodIn wsX1_measure (wsX9_has) := ggX1_measure_X9_has
set_option maxRecDepth 20000 in
theorem ggX1_measure_X9_put : GoodIn wsX1_measure wsX9_put := goodIn_r _ [9] (by decide +kernel) (by decide +kernel)
set_option maxRecDepth 20000 in
theorem gX1_measure_X9_put_n37 : GoodIn wsX1_measure (wsX9_put) := ggX1_measure_X9_put
set_option maxRecDepth 20000 in
theorem ggX1_measure_X1_aroundAny : GoodIn wsX1_measure wsX1_aroundAny := goodIn_r _ [14, 2, 3, 4, 5, 6, 7, 15, 16, 17, 13, 18, 19, 20, 21, 22, 23, 24, 25] (by decide +kernel) (by decide +kernel)
set_option maxRecDepth 20000 in
theorem gX1_measure_X1_aroundAny : GoodIn wsX1_measure (wsV RX1 45 RX1 yX1_aroundAny wsX1_aroundAny) := goodIn_app (goodIn_of _ (by decide +kernel)) ggX1_measure_X1_aroundAny
theorem dX1_measure_0 : decode cX1_measure 0 = .ok (.iconst 0, 1) := by decide +kernel
theorem dX1_measure_1 : decode cX1_measure 1 = .ok (.istore_n 2, 1) := by decide +kernel
theorem dX1_measure_2 : decode cX1_measure 2 = .ok (.iload_n 2, 1) := by decide +kernel
theorem dX1_measure_3 : decode cX1_measure 3 = .ok (.aload_n 0, 1) := by decide +kernel
theorem dX1_measure_4 : decode cX1_measure 4 = .ok (.getfield 19, 3) := by decide +kernel
theorem dX1_measure_7 : decode cX1_measure 7 = .ok (.arraylength, 1) := by decide +kernel
theorem dX1_measure_8 : decode cX1_measure 8 = .ok (.if_icmp .ge 16, 3) := by decide +kernel
theorem dX1_measure_11 : decode cX1_measure 11 = .ok (.aload_n 0, 1) := by decide +kernel
theorem dX1_measure_12 : decode cX1_measure 12 = .ok (.getfield 19, 3) := by decide +kernel
theorem dX1_measure_15 : decode cX1_measure 15 = .ok (.iload_n 2, 1) := by decide +kernel
theorem dX1_measure_16 : decode cX1_measure 16 = .ok (.iconst (-1), 1) := by decide +kernel
theorem dX1_measure_17 : decode cX1_measure 17 = .ok (.iastore, 1) := by decide +kernel
theorem dX1_measure_18 : decode cX1_measure 18 = .ok (.iinc 2 1, 3) := by decide +kernel
theorem dX1_measure_21 : decode cX1_measure 21 = .ok (.goto (-19), 3) := by decide +kernel
theorem dX1_measure_24 : decode cX1_measure 24 = .ok (.iconst 1, 1) := by decide +kernel
theorem dX1_measure_25 : decode cX1_measure 25 = .ok (.iload_n 1, 1) := by decide +kernel
theorem dX1_measure_26 : decode cX1_measure 26 = .ok (.ishl, 1) := by decide +kernel
theorem dX1_measure_27 : decode cX1_measure 27 = .ok (.istore_n 2, 1) := by decide +kernel
theorem dX1_measure_28 : decode cX1_measure 28 = .ok (.iload_n 2, 1) := by decide +kernel
theorem dX1_measure_29 : decode cX1_measure 29 = .ok (.istore_n 3, 1) := by decide +kernel
theorem dX1_measure_30 : decode cX1_measure 30 = .ok (.iconst 0, 1) := by decide +kernel
theorem dX1_measure_31 : decode cX1_measure 31 = .ok (.istore 4, 2) := by decide +kernel
theorem dX1_measure_33 : decode cX1_measure 33 = .ok (.iload 4, 2) := by decide +kernel
theorem dX1_measure_35 : decode cX1_measure 35 = .ok (.bipush 16, 2) := by decide +kernel
theorem dX1_measure_37 : decode cX1_measure 37 = .ok (.if_icmp .ge 63, 3) := by decide +kernel
theorem dX1_measure_40 : decode cX1_measure 40 = .ok (.iload_n 3, 1) := by decide +kernel
theorem dX1_measure_41 : decode cX1_measure 41 = .ok (.ifCond .eq 59, 3) := by decide +kernel
theorem dX1_measure_44 : decode cX1_measure 44 = .ok (.iconst 0, 1) := by decide +kernel
theorem dX1_measure_45 : decode cX1_measure 45 = .ok (.istore 5, 2) := by decide +kernel
theorem dX1_measure_47 : decode cX1_measure 47 = .ok (.iload 5, 2) := by decide +kernel
theorem dX1_measure_49 : decode cX1_measure 49 = .ok (.bipush 16, 2) := by decide +kernel
theorem dX1_measure_51 : decode cX1_measure 51 = .ok (.if_icmp .ge 29, 3) := by decide +kernel
theorem dX1_measure_54 : decode cX1_measure 54 = .ok (.iload_n 3, 1) := by decide +kernel
theorem dX1_measure_55 : decode cX1_measure 55 = .ok (.iload 5, 2) := by decide +kernel
theorem dX1_measure_57 : decode cX1_measure 57 = .ok (.invokestatic 29, 3) := by decide +kernel
theorem dX1_measure_60 : decode cX1_measure 60 = .ok (.ifCond .eq 14, 3) := by decide +kernel
theorem dX1_measure_63 : decode cX1_measure 63 = .ok (.aload_n 0, 1) := by decide +kernel
theorem dX1_measure_64 : decode cX1_measure 64 = .ok (.getfield 19, 3) := by decide +kernel
theorem dX1_measure_67 : decode cX1_measure 67 = .ok (.iload 5, 2) := by decide +kernel
theorem dX1_measure_69 : decode cX1_measure 69 = .ok (.iload 4, 2) := by decide +kernel
theorem dX1_measure_71 : decode cX1_measure 71 = .ok (.invokestatic 37, 3) := by decide +kernel
theorem dX1_measure_74 : decode cX1_measure 74 = .ok (.iinc 5 1, 3) := by decide +kernel
theorem dX1_measure_77 : decode cX1_measure 77 = .ok (.goto (-30), 3) := by decide +kernel
theorem dX1_measure_80 : decode cX1_measure 80 = .ok (.aload_n 0, 1) := by decide +kernel
theorem dX1_measure_81 : decode cX1_measure 81 = .ok (.iload_n 3, 1) := by decide +kernel
theorem dX1_measure_82 : decode cX1_measure 82 = .ok (.invokevirtual 45, 3) := by decide +kernel
theorem dX1_measure_85 : decode cX1_measure 85 = .ok (.iload_n 2, 1) := by decide +kernel
theorem dX1_measure_86 : decode cX1_measure 86 = .ok (.iconst (-1), 1) := by decide +kernel
theorem dX1_measure_87 : decode cX1_measure 87 = .ok (.ixor, 1) := by decide +kernel
theorem dX1_measure_88 : decode cX1_measure 88 = .ok (.iand, 1) := by decide +kernel
theorem dX1_measure_89 : decode cX1_measure 89 = .ok (.istore_n 3, 1) := by decide +kernel
theorem dX1_measure_90 : decode cX1_measure 90 = .ok (.iload_n 2, 1) := by decide +kernel
theorem dX1_measure_91 : decode cX1_measure 91 = .ok (.iload_n 3, 1) := by decide +kernel
theorem dX1_measure_92 : decode cX1_measure 92 = .ok (.ior, 1) := by decide +kernel
theorem dX1_measure_93 : decode cX1_measure 93 = .ok (.istore_n 2, 1) := by decide +kernel
theorem dX1_measure_94 : decode cX1_measure 94 = .ok (.iinc 4 1, 3) := by decide +kernel
theorem dX1_measure_97 : decode cX1_measure 97 = .ok (.goto (-64), 3) := by decide +kernel
theorem dX1_measure_100 : decode cX1_measure 100 = .ok (.return_, 1) := by decide +kernel
set_option maxRecDepth 20000 in
theorem ggX1_stepsTo_X9_within : GoodIn wsX1_stepsTo wsX9_within := goodIn_r _ [4] (by decide +kernel) (by decide +kernel)
set_option maxRecDepth 20000 in
theorem gX1_stepsTo_X9_within_n25 : GoodIn wsX1_stepsTo (wsX9_within) := ggX1_stepsTo_X9_within
set_option maxRecDepth 20000 in
theorem ggX1_stepsTo_X9_at : GoodIn wsX1_stepsTo wsX9_at := goodIn_r _ [6] (by decide +kernel) (by decide +kernel)
set_option maxRecDepth 20000 in
theorem gX1_stepsTo_X9_at_n33 : GoodIn wsX1_stepsTo (wsX9_at) := ggX1_stepsTo_X9_at
theorem dX1_stepsTo_0 : decode cX1_stepsTo 0 = .ok (.iload_n 1, 1) := by decide +kernel
theorem dX1_stepsTo_1 : decode cX1_stepsTo 1 = .ok (.iconst 0, 1) := by decide +kernel
theorem dX1_stepsTo_2 : decode cX1_stepsTo 2 = .ok (.bipush 15, 2) := by decide +kernel
theorem dX1_stepsTo_4 : decode cX1_stepsTo 4 = .ok (.invokestatic 25, 3) := by decide +kernel
theorem dX1_stepsTo_7 : decode cX1_stepsTo 7 = .ok (.ifCond .eq 14, 3) := by decide +kernel
theorem dX1_stepsTo_10 : decode cX1_stepsTo 10 = .ok (.aload_n 0, 1) := by decide +kernel
theorem dX1_stepsTo_11 : decode cX1_stepsTo 11 = .ok (.getfield 19, 3) := by decide +kernel
theorem dX1_stepsTo_14 : decode cX1_stepsTo 14 = .ok (.iload_n 1, 1) := by decide +kernel
theorem dX1_stepsTo_15 : decode cX1_stepsTo 15 = .ok (.invokestatic 33, 3) := by decide +kernel
theorem dX1_stepsTo_18 : decode cX1_stepsTo 18 = .ok (.goto 4, 3) := by decide +kernel
theorem dX1_stepsTo_21 : decode cX1_stepsTo 21 = .ok (.iconst (-1), 1) := by decide +kernel
theorem dX1_stepsTo_22 : decode cX1_stepsTo 22 = .ok (.ireturn, 1) := by decide +kernel
set_option maxRecDepth 20000 in
theorem ggX1_stepTowards_X1_lowestCloser : GoodIn wsX1_stepTowards wsX1_lowestCloser := goodIn_r _ [5, 6, 7, 8, 9, 10, 11, 12, 13, 14, 15, 16, 17, 4, 18, 19, 20, 21, 22, 23] (by decide +kernel) (by decide +kernel)
set_option maxRecDepth 20000 in
theorem gX1_stepTowards_X1_lowestCloser : GoodIn wsX1_stepTowards (wsV RX1 48 RX1 yX1_lowestCloser wsX1_lowestCloser) := goodIn_app (goodIn_of _ (by decide +kernel)) ggX1_stepTowards_X1_lowestCloser
theorem dX1_stepTowards_0 : decode cX1_stepTowards 0 = .ok (.iload_n 1, 1) := by decide +kernel
theorem dX1_stepTowards_1 : decode cX1_stepTowards 1 = .ok (.istore_n 3, 1) := by decide +kernel
theorem dX1_stepTowards_2 : decode cX1_stepTowards 2 = .ok (.iconst 0, 1) := by decide +kernel
theorem dX1_stepTowards_3 : decode cX1_stepTowards 3 = .ok (.istore 4, 2) := by decide +kernel
theorem dX1_stepTowards_5 : decode cX1_stepTowards 5 = .ok (.iload 4, 2) := by decide +kernel
theorem dX1_stepTowards_7 : decode cX1_stepTowards 7 = .ok (.iload_n 2, 1) := by decide +kernel
theorem dX1_stepTowards_8 : decode cX1_stepTowards 8 = .ok (.if_icmp .ge 22, 3) := by decide +kernel
theorem dX1_stepTowards_11 : decode cX1_stepTowards 11 = .ok (.iload 4, 2) := by decide +kernel
theorem dX1_stepTowards_13 : decode cX1_stepTowards 13 = .ok (.bipush 16, 2) := by decide +kernel
theorem dX1_stepTowards_15 : decode cX1_stepTowards 15 = .ok (.if_icmp .ge 15, 3) := by decide +kernel
theorem dX1_stepTowards_18 : decode cX1_stepTowards 18 = .ok (.aload_n 0, 1) := by decide +kernel
theorem dX1_stepTowards_19 : decode cX1_stepTowards 19 = .ok (.iload_n 3, 1) := by decide +kernel
theorem dX1_stepTowards_20 : decode cX1_stepTowards 20 = .ok (.invokevirtual 48, 3) := by decide +kernel
theorem dX1_stepTowards_23 : decode cX1_stepTowards 23 = .ok (.istore_n 3, 1) := by decide +kernel
theorem dX1_stepTowards_24 : decode cX1_stepTowards 24 = .ok (.iinc 4 1, 3) := by decide +kernel
theorem dX1_stepTowards_27 : decode cX1_stepTowards 27 = .ok (.goto (-22), 3) := by decide +kernel
theorem dX1_stepTowards_30 : decode cX1_stepTowards 30 = .ok (.iload_n 3, 1) := by decide +kernel
theorem dX1_stepTowards_31 : decode cX1_stepTowards 31 = .ok (.ireturn, 1) := by decide +kernel
set_option maxRecDepth 20000 in
theorem ggX1_lowestCloser_X9_at : GoodIn wsX1_lowestCloser wsX9_at := goodIn_r _ [4] (by decide +kernel) (by decide +kernel)
set_option maxRecDepth 20000 in
theorem gX1_lowestCloser_X9_at_n33 : GoodIn wsX1_lowestCloser (wsX9_at) := ggX1_lowestCloser_X9_at
set_option maxRecDepth 20000 in
theorem ggX1_lowestCloser_X9_has : GoodIn wsX1_lowestCloser wsX9_has := goodIn_r _ [6, 7, 8, 3, 9] (by decide +kernel) (by decide +kernel)
set_option maxRecDepth 20000 in
theorem gX1_lowestCloser_X9_has_n29 : GoodIn wsX1_lowestCloser (wsX9_has) := ggX1_lowestCloser_X9_has
set_option maxRecDepth 20000 in
theorem ggX1_lowestCloser_X1_stepsTo : GoodIn wsX1_lowestCloser wsX1_stepsTo := goodIn_r _ [14, 15, 8, 3, 9, 2, 4, 16, 17, 18, 19] (by decide +kernel) (by decide +kernel)
set_option maxRecDepth 20000 in
theorem gX1_lowestCloser_X1_stepsTo : GoodIn wsX1_lowestCloser (wsV RX1 51 RX1 yX1_stepsTo wsX1_stepsTo) := goodIn_app (goodIn_of _ (by decide +kernel)) ggX1_lowestCloser_X1_stepsTo
theorem dX1_lowestCloser_0 : decode cX1_lowestCloser 0 = .ok (.iconst 0, 1) := by decide +kernel
theorem dX1_lowestCloser_1 : decode cX1_lowestCloser 1 = .ok (.istore_n 2, 1) := by decide +kernel
theorem dX1_lowestCloser_2 : decode cX1_lowestCloser 2 = .ok (.iload_n 2, 1) := by decide +kernel
theorem dX1_lowestCloser_3 : decode cX1_lowestCloser 3 = .ok (.bipush 16, 2) := by decide +kernel
theorem dX1_lowestCloser_5 : decode cX1_lowestCloser 5 = .ok (.if_icmp .ge 41, 3) := by decide +kernel
theorem dX1_lowestCloser_8 : decode cX1_lowestCloser 8 = .ok (.aload_n 0, 1) := by decide +kernel
theorem dX1_lowestCloser_9 : decode cX1_lowestCloser 9 = .ok (.getfield 15, 3) := by decide +kernel
theorem dX1_lowestCloser_12 : decode cX1_lowestCloser 12 = .ok (.iload_n 1, 1) := by decide +kernel
theorem dX1_lowestCloser_13 : decode cX1_lowestCloser 13 = .ok (.invokestatic 33, 3) := by decide +kernel
theorem dX1_lowestCloser_16 : decode cX1_lowestCloser 16 = .ok (.iload_n 2, 1) := by decide +kernel
theorem dX1_lowestCloser_17 : decode cX1_lowestCloser 17 = .ok (.invokestatic 29, 3) := by decide +kernel
theorem dX1_lowestCloser_20 : decode cX1_lowestCloser 20 = .ok (.ifCond .eq 20, 3) := by decide +kernel
theorem dX1_lowestCloser_23 : decode cX1_lowestCloser 23 = .ok (.aload_n 0, 1) := by decide +kernel
theorem dX1_lowestCloser_24 : decode cX1_lowestCloser 24 = .ok (.iload_n 2, 1) := by decide +kernel
theorem dX1_lowestCloser_25 : decode cX1_lowestCloser 25 = .ok (.invokevirtual 51, 3) := by decide +kernel
theorem dX1_lowestCloser_28 : decode cX1_lowestCloser 28 = .ok (.aload_n 0, 1) := by decide +kernel
theorem dX1_lowestCloser_29 : decode cX1_lowestCloser 29 = .ok (.iload_n 1, 1) := by decide +kernel
theorem dX1_lowestCloser_30 : decode cX1_lowestCloser 30 = .ok (.invokevirtual 51, 3) := by decide +kernel
theorem dX1_lowestCloser_33 : decode cX1_lowestCloser 33 = .ok (.iconst 1, 1) := by decide +kernel
theorem dX1_lowestCloser_34 : decode cX1_lowestCloser 34 = .ok (.isub, 1) := by decide +kernel
theorem dX1_lowestCloser_35 : decode cX1_lowestCloser 35 = .ok (.if_icmp .ne 5, 3) := by decide +kernel
theorem dX1_lowestCloser_38 : decode cX1_lowestCloser 38 = .ok (.iload_n 2, 1) := by decide +kernel
theorem dX1_lowestCloser_39 : decode cX1_lowestCloser 39 = .ok (.ireturn, 1) := by decide +kernel
theorem dX1_lowestCloser_40 : decode cX1_lowestCloser 40 = .ok (.iinc 2 1, 3) := by decide +kernel
theorem dX1_lowestCloser_43 : decode cX1_lowestCloser 43 = .ok (.goto (-41), 3) := by decide +kernel
theorem dX1_lowestCloser_46 : decode cX1_lowestCloser 46 = .ok (.iload_n 1, 1) := by decide +kernel
theorem dX1_lowestCloser_47 : decode cX1_lowestCloser 47 = .ok (.ireturn, 1) := by decide +kernel
set_option maxRecDepth 20000 in
theorem ggX1_shortestWays_X1_measure : GoodIn wsX1_shortestWays wsX1_measure := goodIn_r _ [6, 7, 8, 9, 10, 11, 12, 13, 14, 15, 16, 17, 18, 5, 19, 20, 21, 22, 23, 24, 25, 26, 35, 36, 37, 38] (by decide +kernel) (by decide +kernel)
set_option maxRecDepth 20000 in
theorem gX1_shortestWays_X1_measure : GoodIn wsX1_shortestWays (wsV RX1 54 RX1 yX1_measure wsX1_measure) := goodIn_app (goodIn_of _ (by decide +kernel)) ggX1_shortestWays_X1_measure
set_option maxRecDepth 20000 in
theorem ggX1_shortestWays_X1_stepsTo : GoodIn wsX1_shortestWays wsX1_stepsTo := goodIn_r _ [30, 7, 12, 9, 13, 25, 26, 35, 36, 37, 38] (by decide +kernel) (by decide +kernel)
set_option maxRecDepth 20000 in
theorem gX1_shortestWays_X1_stepsTo : GoodIn wsX1_shortestWays (wsV RX1 51 RX1 yX1_stepsTo wsX1_stepsTo) := goodIn_app (goodIn_of _ (by decide +kernel)) ggX1_shortestWays_X1_stepsTo
set_option maxRecDepth 20000 in
theorem ggX1_shortestWays_X1_waysFromCloser : GoodIn wsX1_shortestWays wsX1_waysFromCloser := goodIn_r _ [34, 24, 1, 25, 9, 26, 8, 10, 11, 12, 13, 27, 28, 29, 5, 30, 7, 35, 36, 37, 38] (by decide +kernel) (by decide +kernel)
set_option maxRecDepth 20000 in
theorem gX1_shortestWays_X1_waysFromCloser : GoodIn wsX1_shortestWays (wsV RX1 58 RX1 yX1_waysFromCloser wsX1_waysFromCloser) := goodIn_app (goodIn_of _ (by decide +kernel)) ggX1_shortestWays_X1_waysFromCloser
set_option maxRecDepth 20000 in
theorem ggX1_shortestWays_X9_put : GoodIn wsX1_shortestWays wsX9_put := goodIn_r _ [15] (by decide +kernel) (by decide +kernel)
set_option maxRecDepth 20000 in
theorem gX1_shortestWays_X9_put_n37 : GoodIn wsX1_shortestWays (wsX9_put) := ggX1_shortestWays_X9_put
set_option maxRecDepth 20000 in
theorem ggX1_shortestWays_X9_at : GoodIn wsX1_shortestWays wsX9_at := goodIn_r _ [26] (by decide +kernel) (by decide +kernel)
set_option maxRecDepth 20000 in
theorem gX1_shortestWays_X9_at_n33 : GoodIn wsX1_shortestWays (wsX9_at) := ggX1_shortestWays_X9_at
theorem dX1_shortestWays_0 : decode cX1_shortestWays 0 = .ok (.aload_n 0, 1) := by decide +kernel
theorem dX1_shortestWays_1 : decode cX1_shortestWays 1 = .ok (.iload_n 1, 1) := by decide +kernel
theorem dX1_shortestWays_2 : decode cX1_shortestWays 2 = .ok (.invokevirtual 54, 3) := by decide +kernel
theorem dX1_shortestWays_5 : decode cX1_shortestWays 5 = .ok (.iconst 0, 1) := by decide +kernel
theorem dX1_shortestWays_6 : decode cX1_shortestWays 6 = .ok (.istore_n 3, 1) := by decide +kernel
theorem dX1_shortestWays_7 : decode cX1_shortestWays 7 = .ok (.iload_n 3, 1) := by decide +kernel
theorem dX1_shortestWays_8 : decode cX1_shortestWays 8 = .ok (.aload_n 0, 1) := by decide +kernel
theorem dX1_shortestWays_9 : decode cX1_shortestWays 9 = .ok (.getfield 22, 3) := by decide +kernel
theorem dX1_shortestWays_12 : decode cX1_shortestWays 12 = .ok (.arraylength, 1) := by decide +kernel
theorem dX1_shortestWays_13 : decode cX1_shortestWays 13 = .ok (.if_icmp .ge 25, 3) := by decide +kernel
theorem dX1_shortestWays_16 : decode cX1_shortestWays 16 = .ok (.aload_n 0, 1) := by decide +kernel
theorem dX1_shortestWays_17 : decode cX1_shortestWays 17 = .ok (.getfield 22, 3) := by decide +kernel
theorem dX1_shortestWays_20 : decode cX1_shortestWays 20 = .ok (.iload_n 3, 1) := by decide +kernel
theorem dX1_shortestWays_21 : decode cX1_shortestWays 21 = .ok (.iload_n 3, 1) := by decide +kernel
theorem dX1_shortestWays_22 : decode cX1_shortestWays 22 = .ok (.iload_n 1, 1) := by decide +kernel
theorem dX1_shortestWays_23 : decode cX1_shortestWays 23 = .ok (.if_icmp .ne 7, 3) := by decide +kernel
theorem dX1_shortestWays_26 : decode cX1_shortestWays 26 = .ok (.iconst 1, 1) := by decide +kernel
theorem dX1_shortestWays_27 : decode cX1_shortestWays 27 = .ok (.goto 4, 3) := by decide +kernel
theorem dX1_shortestWays_30 : decode cX1_shortestWays 30 = .ok (.iconst 0, 1) := by decide +kernel
theorem dX1_shortestWays_31 : decode cX1_shortestWays 31 = .ok (.iastore, 1) := by decide +kernel
theorem dX1_shortestWays_32 : decode cX1_shortestWays 32 = .ok (.iinc 3 1, 3) := by decide +kernel
theorem dX1_shortestWays_35 : decode cX1_shortestWays 35 = .ok (.goto (-28), 3) := by decide +kernel
theorem dX1_shortestWays_38 : decode cX1_shortestWays 38 = .ok (.iconst 1, 1) := by decide +kernel
theorem dX1_shortestWays_39 : decode cX1_shortestWays 39 = .ok (.istore_n 3, 1) := by decide +kernel
theorem dX1_shortestWays_40 : decode cX1_shortestWays 40 = .ok (.iload_n 3, 1) := by decide +kernel
theorem dX1_shortestWays_41 : decode cX1_shortestWays 41 = .ok (.bipush 16, 2) := by decide +kernel
theorem dX1_shortestWays_43 : decode cX1_shortestWays 43 = .ok (.if_icmp .ge 51, 3) := by decide +kernel
theorem dX1_shortestWays_46 : decode cX1_shortestWays 46 = .ok (.iconst 0, 1) := by decide +kernel
theorem dX1_shortestWays_47 : decode cX1_shortestWays 47 = .ok (.istore 4, 2) := by decide +kernel
theorem dX1_shortestWays_49 : decode cX1_shortestWays 49 = .ok (.iload 4, 2) := by decide +kernel
theorem dX1_shortestWays_51 : decode cX1_shortestWays 51 = .ok (.bipush 16, 2) := by decide +kernel
theorem dX1_shortestWays_53 : decode cX1_shortestWays 53 = .ok (.if_icmp .ge 35, 3) := by decide +kernel
theorem dX1_shortestWays_56 : decode cX1_shortestWays 56 = .ok (.aload_n 0, 1) := by decide +kernel
theorem dX1_shortestWays_57 : decode cX1_shortestWays 57 = .ok (.iload 4, 2) := by decide +kernel
theorem dX1_shortestWays_59 : decode cX1_shortestWays 59 = .ok (.invokevirtual 51, 3) := by decide +kernel
theorem dX1_shortestWays_62 : decode cX1_shortestWays 62 = .ok (.iload_n 3, 1) := by decide +kernel
theorem dX1_shortestWays_63 : decode cX1_shortestWays 63 = .ok (.if_icmp .ne 19, 3) := by decide +kernel
theorem dX1_shortestWays_66 : decode cX1_shortestWays 66 = .ok (.aload_n 0, 1) := by decide +kernel
theorem dX1_shortestWays_67 : decode cX1_shortestWays 67 = .ok (.getfield 22, 3) := by decide +kernel
theorem dX1_shortestWays_70 : decode cX1_shortestWays 70 = .ok (.iload 4, 2) := by decide +kernel
theorem dX1_shortestWays_72 : decode cX1_shortestWays 72 = .ok (.aload_n 0, 1) := by decide +kernel
theorem dX1_shortestWays_73 : decode cX1_shortestWays 73 = .ok (.iload 4, 2) := by decide +kernel
theorem dX1_shortestWays_75 : decode cX1_shortestWays 75 = .ok (.iload_n 3, 1) := by decide +kernel
theorem dX1_shortestWays_76 : decode cX1_shortestWays 76 = .ok (.invokevirtual 58, 3) := by decide +kernel
theorem dX1_shortestWays_79 : decode cX1_shortestWays 79 = .ok (.invokestatic 37, 3) := by decide +kernel
theorem dX1_shortestWays_82 : decode cX1_shortestWays 82 = .ok (.iinc 4 1, 3) := by decide +kernel
theorem dX1_shortestWays_85 : decode cX1_shortestWays 85 = .ok (.goto (-36), 3) := by decide +kernel
theorem dX1_shortestWays_88 : decode cX1_shortestWays 88 = .ok (.iinc 3 1, 3) := by decide +kernel
theorem dX1_shortestWays_91 : decode cX1_shortestWays 91 = .ok (.goto (-51), 3) := by decide +kernel
theorem dX1_shortestWays_94 : decode cX1_shortestWays 94 = .ok (.aload_n 0, 1) := by decide +kernel
theorem dX1_shortestWays_95 : decode cX1_shortestWays 95 = .ok (.getfield 22, 3) := by decide +kernel
theorem dX1_shortestWays_98 : decode cX1_shortestWays 98 = .ok (.iload_n 2, 1) := by decide +kernel
theorem dX1_shortestWays_99 : decode cX1_shortestWays 99 = .ok (.invokestatic 33, 3) := by decide +kernel
theorem dX1_shortestWays_102 : decode cX1_shortestWays 102 = .ok (.ireturn, 1) := by decide +kernel
set_option maxRecDepth 20000 in
theorem ggX1_waysFromCloser_X9_at : GoodIn wsX1_waysFromCloser wsX9_at := goodIn_r _ [5] (by decide +kernel) (by decide +kernel)
set_option maxRecDepth 20000 in
theorem gX1_waysFromCloser_X9_at_n33 : GoodIn wsX1_waysFromCloser (wsX9_at) := ggX1_waysFromCloser_X9_at
set_option maxRecDepth 20000 in
theorem ggX1_waysFromCloser_X9_has : GoodIn wsX1_waysFromCloser wsX9_has := goodIn_r _ [7, 8, 9, 4, 10] (by decide +kernel) (by decide +kernel)
set_option maxRecDepth 20000 in
theorem gX1_waysFromCloser_X9_has_n29 : GoodIn wsX1_waysFromCloser (wsX9_has) := ggX1_waysFromCloser_X9_has
set_option maxRecDepth 20000 in
theorem ggX1_waysFromCloser_X1_stepsTo : GoodIn wsX1_waysFromCloser wsX1_stepsTo := goodIn_r _ [15, 16, 9, 4, 10, 3, 5, 17, 18, 19, 20] (by decide +kernel) (by decide +kernel)
set_option maxRecDepth 20000 in
theorem gX1_waysFromCloser_X1_stepsTo : GoodIn wsX1_waysFromCloser (wsV RX1 51 RX1 yX1_stepsTo wsX1_stepsTo) := goodIn_app (goodIn_of _ (by decide +kernel)) ggX1_waysFromCloser_X1_stepsTo
theorem dX1_waysFromCloser_0 : decode cX1_waysFromCloser 0 = .ok (.iconst 0, 1) := by decide +kernel
theorem dX1_waysFromCloser_1 : decode cX1_waysFromCloser 1 = .ok (.istore_n 3, 1) := by decide +kernel
theorem dX1_waysFromCloser_2 : decode cX1_waysFromCloser 2 = .ok (.iconst 0, 1) := by decide +kernel
theorem dX1_waysFromCloser_3 : decode cX1_waysFromCloser 3 = .ok (.istore 4, 2) := by decide +kernel
theorem dX1_waysFromCloser_5 : decode cX1_waysFromCloser 5 = .ok (.iload 4, 2) := by decide +kernel
theorem dX1_waysFromCloser_7 : decode cX1_waysFromCloser 7 = .ok (.bipush 16, 2) := by decide +kernel
theorem dX1_waysFromCloser_9 : decode cX1_waysFromCloser 9 = .ok (.if_icmp .ge 49, 3) := by decide +kernel
theorem dX1_waysFromCloser_12 : decode cX1_waysFromCloser 12 = .ok (.aload_n 0, 1) := by decide +kernel
theorem dX1_waysFromCloser_13 : decode cX1_waysFromCloser 13 = .ok (.getfield 15, 3) := by decide +kernel
theorem dX1_waysFromCloser_16 : decode cX1_waysFromCloser 16 = .ok (.iload_n 1, 1) := by decide +kernel
theorem dX1_waysFromCloser_17 : decode cX1_waysFromCloser 17 = .ok (.invokestatic 33, 3) := by decide +kernel
theorem dX1_waysFromCloser_20 : decode cX1_waysFromCloser 20 = .ok (.iload 4, 2) := by decide +kernel
theorem dX1_waysFromCloser_22 : decode cX1_waysFromCloser 22 = .ok (.invokestatic 29, 3) := by decide +kernel
theorem dX1_waysFromCloser_25 : decode cX1_waysFromCloser 25 = .ok (.ifCond .eq 27, 3) := by decide +kernel
theorem dX1_waysFromCloser_28 : decode cX1_waysFromCloser 28 = .ok (.aload_n 0, 1) := by decide +kernel
theorem dX1_waysFromCloser_29 : decode cX1_waysFromCloser 29 = .ok (.iload 4, 2) := by decide +kernel
theorem dX1_waysFromCloser_31 : decode cX1_waysFromCloser 31 = .ok (.invokevirtual 51, 3) := by decide +kernel
theorem dX1_waysFromCloser_34 : decode cX1_waysFromCloser 34 = .ok (.iload_n 2, 1) := by decide +kernel
theorem dX1_waysFromCloser_35 : decode cX1_waysFromCloser 35 = .ok (.iconst 1, 1) := by decide +kernel
theorem dX1_waysFromCloser_36 : decode cX1_waysFromCloser 36 = .ok (.isub, 1) := by decide +kernel
theorem dX1_waysFromCloser_37 : decode cX1_waysFromCloser 37 = .ok (.if_icmp .ne 15, 3) := by decide +kernel
theorem dX1_waysFromCloser_40 : decode cX1_waysFromCloser 40 = .ok (.iload_n 3, 1) := by decide +kernel
theorem dX1_waysFromCloser_41 : decode cX1_waysFromCloser 41 = .ok (.aload_n 0, 1) := by decide +kernel
theorem dX1_waysFromCloser_42 : decode cX1_waysFromCloser 42 = .ok (.getfield 22, 3) := by decide +kernel
theorem dX1_waysFromCloser_45 : decode cX1_waysFromCloser 45 = .ok (.iload 4, 2) := by decide +kernel
theorem dX1_waysFromCloser_47 : decode cX1_waysFromCloser 47 = .ok (.invokestatic 33, 3) := by decide +kernel
theorem dX1_waysFromCloser_50 : decode cX1_waysFromCloser 50 = .ok (.iadd, 1) := by decide +kernel
theorem dX1_waysFromCloser_51 : decode cX1_waysFromCloser 51 = .ok (.istore_n 3, 1) := by decide +kernel
theorem dX1_waysFromCloser_52 : decode cX1_waysFromCloser 52 = .ok (.iinc 4 1, 3) := by decide +kernel
theorem dX1_waysFromCloser_55 : decode cX1_waysFromCloser 55 = .ok (.goto (-50), 3) := by decide +kernel
theorem dX1_waysFromCloser_58 : decode cX1_waysFromCloser 58 = .ok (.iload_n 3, 1) := by decide +kernel
theorem dX1_waysFromCloser_59 : decode cX1_waysFromCloser 59 = .ok (.ireturn, 1) := by decide +kernel
set_option maxRecDepth 20000 in
theorem ggX1_lanesInAll_X9_at : GoodIn wsX1_lanesInAll wsX9_at := goodIn_r _ [4] (by decide +kernel) (by decide +kernel)
set_option maxRecDepth 20000 in
theorem gX1_lanesInAll_X9_at_n33 : GoodIn wsX1_lanesInAll (wsX9_at) := ggX1_lanesInAll_X9_at
set_option maxRecDepth 20000 in
theorem ggX1_lanesInAll_J6_bitCount_0f7a4 : GoodIn wsX1_lanesInAll wsJ6_bitCount_0f7a4 := goodIn_r _ [8, 9, 10, 11] (by decide +kernel) (by decide +kernel)
set_option maxRecDepth 20000 in
theorem gX1_lanesInAll_J6_bitCount_0f7a4 : GoodIn wsX1_lanesInAll (va_wsS RX1 62 yJ6_bitCount_0f7a4 wsJ6_bitCount_0f7a4) := goodIn_app (goodIn_of _ (by decide +kernel)) ggX1_lanesInAll_J6_bitCount_0f7a4
theorem dX1_lanesInAll_0 : decode cX1_lanesInAll 0 = .ok (.iconst 0, 1) := by decide +kernel
theorem dX1_lanesInAll_1 : decode cX1_lanesInAll 1 = .ok (.istore_n 1, 1) := by decide +kernel
theorem dX1_lanesInAll_2 : decode cX1_lanesInAll 2 = .ok (.iconst 0, 1) := by decide +kernel
theorem dX1_lanesInAll_3 : decode cX1_lanesInAll 3 = .ok (.istore_n 2, 1) := by decide +kernel
theorem dX1_lanesInAll_4 : decode cX1_lanesInAll 4 = .ok (.iload_n 2, 1) := by decide +kernel
theorem dX1_lanesInAll_5 : decode cX1_lanesInAll 5 = .ok (.bipush 16, 2) := by decide +kernel
theorem dX1_lanesInAll_7 : decode cX1_lanesInAll 7 = .ok (.if_icmp .ge 23, 3) := by decide +kernel
theorem dX1_lanesInAll_10 : decode cX1_lanesInAll 10 = .ok (.iload_n 1, 1) := by decide +kernel
theorem dX1_lanesInAll_11 : decode cX1_lanesInAll 11 = .ok (.aload_n 0, 1) := by decide +kernel
theorem dX1_lanesInAll_12 : decode cX1_lanesInAll 12 = .ok (.getfield 15, 3) := by decide +kernel
theorem dX1_lanesInAll_15 : decode cX1_lanesInAll 15 = .ok (.iload_n 2, 1) := by decide +kernel
theorem dX1_lanesInAll_16 : decode cX1_lanesInAll 16 = .ok (.invokestatic 33, 3) := by decide +kernel
theorem dX1_lanesInAll_19 : decode cX1_lanesInAll 19 = .ok (.invokestatic 62, 3) := by decide +kernel
theorem dX1_lanesInAll_22 : decode cX1_lanesInAll 22 = .ok (.iadd, 1) := by decide +kernel
theorem dX1_lanesInAll_23 : decode cX1_lanesInAll 23 = .ok (.istore_n 1, 1) := by decide +kernel
theorem dX1_lanesInAll_24 : decode cX1_lanesInAll 24 = .ok (.iinc 2 1, 3) := by decide +kernel
theorem dX1_lanesInAll_27 : decode cX1_lanesInAll 27 = .ok (.goto (-23), 3) := by decide +kernel
theorem dX1_lanesInAll_30 : decode cX1_lanesInAll 30 = .ok (.iload_n 1, 1) := by decide +kernel
theorem dX1_lanesInAll_31 : decode cX1_lanesInAll 31 = .ok (.iconst 2, 1) := by decide +kernel
theorem dX1_lanesInAll_32 : decode cX1_lanesInAll 32 = .ok (.idiv, 1) := by decide +kernel
theorem dX1_lanesInAll_33 : decode cX1_lanesInAll 33 = .ok (.ireturn, 1) := by decide +kernel
set_option maxRecDepth 20000 in
theorem ggX1_bridgesInAll_X1_isBridge : GoodIn wsX1_bridgesInAll wsX1_isBridge := goodIn_r _ [5, 6, 7, 8, 9, 10, 11, 12, 13, 14, 15, 16, 17, 4, 18, 19, 20, 21, 22, 23, 24, 25, 26, 27, 28, 29, 30, 31, 32, 33, 34, 35, 36, 37, 38, 39, 40, 41, 42, 43, 44, 45] (by decide +kernel) (by decide +kernel)
set_option maxRecDepth 20000 in
theorem gX1_bridgesInAll_X1_isBridge : GoodIn wsX1_bridgesInAll (wsV RX1 67 RX1 yX1_isBridge wsX1_isBridge) := goodIn_app (goodIn_of _ (by decide +kernel)) ggX1_bridgesInAll_X1_isBridge
theorem dX1_bridgesInAll_0 : decode cX1_bridgesInAll 0 = .ok (.iconst 0, 1) := by decide +kernel
theorem dX1_bridgesInAll_1 : decode cX1_bridgesInAll 1 = .ok (.istore_n 1, 1) := by decide +kernel
theorem dX1_bridgesInAll_2 : decode cX1_bridgesInAll 2 = .ok (.iconst 0, 1) := by decide +kernel
theorem dX1_bridgesInAll_3 : decode cX1_bridgesInAll 3 = .ok (.istore_n 2, 1) := by decide +kernel
theorem dX1_bridgesInAll_4 : decode cX1_bridgesInAll 4 = .ok (.iload_n 2, 1) := by decide +kernel
theorem dX1_bridgesInAll_5 : decode cX1_bridgesInAll 5 = .ok (.bipush 16, 2) := by decide +kernel
theorem dX1_bridgesInAll_7 : decode cX1_bridgesInAll 7 = .ok (.if_icmp .ge 37, 3) := by decide +kernel
theorem dX1_bridgesInAll_10 : decode cX1_bridgesInAll 10 = .ok (.iload_n 2, 1) := by decide +kernel
theorem dX1_bridgesInAll_11 : decode cX1_bridgesInAll 11 = .ok (.iconst 1, 1) := by decide +kernel
theorem dX1_bridgesInAll_12 : decode cX1_bridgesInAll 12 = .ok (.iadd, 1) := by decide +kernel
theorem dX1_bridgesInAll_13 : decode cX1_bridgesInAll 13 = .ok (.istore_n 3, 1) := by decide +kernel
theorem dX1_bridgesInAll_14 : decode cX1_bridgesInAll 14 = .ok (.iload_n 3, 1) := by decide +kernel
theorem dX1_bridgesInAll_15 : decode cX1_bridgesInAll 15 = .ok (.bipush 16, 2) := by decide +kernel
theorem dX1_bridgesInAll_17 : decode cX1_bridgesInAll 17 = .ok (.if_icmp .ge 21, 3) := by decide +kernel
theorem dX1_bridgesInAll_20 : decode cX1_bridgesInAll 20 = .ok (.aload_n 0, 1) := by decide +kernel
theorem dX1_bridgesInAll_21 : decode cX1_bridgesInAll 21 = .ok (.iload_n 2, 1) := by decide +kernel
theorem dX1_bridgesInAll_22 : decode cX1_bridgesInAll 22 = .ok (.iload_n 3, 1) := by decide +kernel
theorem dX1_bridgesInAll_23 : decode cX1_bridgesInAll 23 = .ok (.invokevirtual 67, 3) := by decide +kernel
theorem dX1_bridgesInAll_26 : decode cX1_bridgesInAll 26 = .ok (.ifCond .eq 6, 3) := by decide +kernel
theorem dX1_bridgesInAll_29 : decode cX1_bridgesInAll 29 = .ok (.iinc 1 1, 3) := by decide +kernel
theorem dX1_bridgesInAll_32 : decode cX1_bridgesInAll 32 = .ok (.iinc 3 1, 3) := by decide +kernel
theorem dX1_bridgesInAll_35 : decode cX1_bridgesInAll 35 = .ok (.goto (-21), 3) := by decide +kernel
theorem dX1_bridgesInAll_38 : decode cX1_bridgesInAll 38 = .ok (.iinc 2 1, 3) := by decide +kernel
theorem dX1_bridgesInAll_41 : decode cX1_bridgesInAll 41 = .ok (.goto (-37), 3) := by decide +kernel
theorem dX1_bridgesInAll_44 : decode cX1_bridgesInAll 44 = .ok (.iload_n 1, 1) := by decide +kernel
theorem dX1_bridgesInAll_45 : decode cX1_bridgesInAll 45 = .ok (.ireturn, 1) := by decide +kernel
set_option maxRecDepth 20000 in
theorem ggX1_firstBridge_X1_isBridge : GoodIn wsX1_firstBridge wsX1_isBridge := goodIn_r _ [5, 6, 7, 8, 9, 10, 11, 12, 13, 14, 15, 16, 17, 4, 18, 19, 20, 21, 22, 23, 24, 25, 26, 27, 28, 29, 30, 31, 32, 33, 34, 35, 36, 37, 38, 39, 40, 41, 42, 43, 44, 45] (by decide +kernel) (by decide +kernel)
set_option maxRecDepth 20000 in
theorem gX1_firstBridge_X1_isBridge : GoodIn wsX1_firstBridge (wsV RX1 67 RX1 yX1_isBridge wsX1_isBridge) := goodIn_app (goodIn_of _ (by decide +kernel)) ggX1_firstBridge_X1_isBridge
theorem dX1_firstBridge_0 : decode cX1_firstBridge 0 = .ok (.iconst 0, 1) := by decide +kernel
theorem dX1_firstBridge_1 : decode cX1_firstBridge 1 = .ok (.istore_n 1, 1) := by decide +kernel
theorem dX1_firstBridge_2 : decode cX1_firstBridge 2 = .ok (.iload_n 1, 1) := by decide +kernel
theorem dX1_firstBridge_3 : decode cX1_firstBridge 3 = .ok (.bipush 16, 2) := by decide +kernel
theorem dX1_firstBridge_5 : decode cX1_firstBridge 5 = .ok (.if_icmp .ge 41, 3) := by decide +kernel
theorem dX1_firstBridge_8 : decode cX1_firstBridge 8 = .ok (.iload_n 1, 1) := by decide +kernel
theorem dX1_firstBridge_9 : decode cX1_firstBridge 9 = .ok (.iconst 1, 1) := by decide +kernel
theorem dX1_firstBridge_10 : decode cX1_firstBridge 10 = .ok (.iadd, 1) := by decide +kernel
theorem dX1_firstBridge_11 : decode cX1_firstBridge 11 = .ok (.istore_n 2, 1) := by decide +kernel
theorem dX1_firstBridge_12 : decode cX1_firstBridge 12 = .ok (.iload_n 2, 1) := by decide +kernel
theorem dX1_firstBridge_13 : decode cX1_firstBridge 13 = .ok (.bipush 16, 2) := by decide +kernel
theorem dX1_firstBridge_15 : decode cX1_firstBridge 15 = .ok (.if_icmp .ge 25, 3) := by decide +kernel
theorem dX1_firstBridge_18 : decode cX1_firstBridge 18 = .ok (.aload_n 0, 1) := by decide +kernel
theorem dX1_firstBridge_19 : decode cX1_firstBridge 19 = .ok (.iload_n 1, 1) := by decide +kernel
theorem dX1_firstBridge_20 : decode cX1_firstBridge 20 = .ok (.iload_n 2, 1) := by decide +kernel
theorem dX1_firstBridge_21 : decode cX1_firstBridge 21 = .ok (.invokevirtual 67, 3) := by decide +kernel
theorem dX1_firstBridge_24 : decode cX1_firstBridge 24 = .ok (.ifCond .eq 10, 3) := by decide +kernel
theorem dX1_firstBridge_27 : decode cX1_firstBridge 27 = .ok (.iload_n 1, 1) := by decide +kernel
theorem dX1_firstBridge_28 : decode cX1_firstBridge 28 = .ok (.bipush 16, 2) := by decide +kernel
theorem dX1_firstBridge_30 : decode cX1_firstBridge 30 = .ok (.imul, 1) := by decide +kernel
theorem dX1_firstBridge_31 : decode cX1_firstBridge 31 = .ok (.iload_n 2, 1) := by decide +kernel
theorem dX1_firstBridge_32 : decode cX1_firstBridge 32 = .ok (.iadd, 1) := by decide +kernel
theorem dX1_firstBridge_33 : decode cX1_firstBridge 33 = .ok (.ireturn, 1) := by decide +kernel
theorem dX1_firstBridge_34 : decode cX1_firstBridge 34 = .ok (.iinc 2 1, 3) := by decide +kernel
theorem dX1_firstBridge_37 : decode cX1_firstBridge 37 = .ok (.goto (-25), 3) := by decide +kernel
theorem dX1_firstBridge_40 : decode cX1_firstBridge 40 = .ok (.iinc 1 1, 3) := by decide +kernel
theorem dX1_firstBridge_43 : decode cX1_firstBridge 43 = .ok (.goto (-41), 3) := by decide +kernel
theorem dX1_firstBridge_46 : decode cX1_firstBridge 46 = .ok (.iconst (-1), 1) := by decide +kernel
theorem dX1_firstBridge_47 : decode cX1_firstBridge 47 = .ok (.ireturn, 1) := by decide +kernel
set_option maxRecDepth 20000 in
theorem ggX1_isBridge_X9_at : GoodIn wsX1_isBridge wsX9_at := goodIn_r _ [4] (by decide +kernel) (by decide +kernel)
set_option maxRecDepth 20000 in
theorem gX1_isBridge_X9_at_n33 : GoodIn wsX1_isBridge (wsX9_at) := ggX1_isBridge_X9_at
set_option maxRecDepth 20000 in
theorem ggX1_isBridge_X9_has : GoodIn wsX1_isBridge wsX9_has := goodIn_r _ [6, 7, 8, 3, 9] (by decide +kernel) (by decide +kernel)
set_option maxRecDepth 20000 in
theorem gX1_isBridge_X9_has_n29 : GoodIn wsX1_isBridge (wsX9_has) := ggX1_isBridge_X9_has
set_option maxRecDepth 20000 in
theorem ggX1_isBridge_X1_part : GoodIn wsX1_isBridge wsX1_part := goodIn_r _ [14, 1, 2, 3, 4, 15, 16, 38, 39, 40, 41] (by decide +kernel) (by decide +kernel)
set_option maxRecDepth 20000 in
theorem gX1_isBridge_X1_part : GoodIn wsX1_isBridge (wsV RX1 70 RX1 yX1_part wsX1_part) := goodIn_app (goodIn_of _ (by decide +kernel)) ggX1_isBridge_X1_part
set_option maxRecDepth 20000 in
theorem ggX1_isBridge_X1_measure : GoodIn wsX1_isBridge wsX1_measure := goodIn_r _ [20, 21, 5, 3, 6, 7, 8, 9, 15, 16, 22, 23, 24, 13, 25, 26, 27, 28, 29, 1, 2, 4, 38, 39, 40, 41] (by decide +kernel) (by decide +kernel)
set_option maxRecDepth 20000 in
theorem gX1_isBridge_X1_measure : GoodIn wsX1_isBridge (wsV RX1 54 RX1 yX1_measure wsX1_measure) := goodIn_app (goodIn_of _ (by decide +kernel)) ggX1_isBridge_X1_measure
set_option maxRecDepth 20000 in
theorem ggX1_isBridge_X1_join : GoodIn wsX1_isBridge wsX1_join := goodIn_r _ [33, 1, 2, 3, 4, 15, 16, 38, 39, 40, 41] (by decide +kernel) (by decide +kernel)
set_option maxRecDepth 20000 in
theorem gX1_isBridge_X1_join : GoodIn wsX1_isBridge (wsV RX1 74 RX1 yX1_join wsX1_join) := goodIn_app (goodIn_of _ (by decide +kernel)) ggX1_isBridge_X1_join
set_option maxRecDepth 20000 in
theorem ggX1_isBridge_X1_stepsTo : GoodIn wsX1_isBridge wsX1_stepsTo := goodIn_r _ [37, 21, 8, 3, 9, 2, 4, 38, 39, 40, 41] (by decide +kernel) (by decide +kernel)
set_option maxRecDepth 20000 in
theorem gX1_isBridge_X1_stepsTo : GoodIn wsX1_isBridge (wsV RX1 51 RX1 yX1_stepsTo wsX1_stepsTo) := goodIn_app (goodIn_of _ (by decide +kernel)) ggX1_isBridge_X1_stepsTo
theorem dX1_isBridge_0 : decode cX1_isBridge 0 = .ok (.aload_n 0, 1) := by decide +kernel
theorem dX1_isBridge_1 : decode cX1_isBridge 1 = .ok (.getfield 15, 3) := by decide +kernel
theorem dX1_isBridge_4 : decode cX1_isBridge 4 = .ok (.iload_n 1, 1) := by decide +kernel
theorem dX1_isBridge_5 : decode cX1_isBridge 5 = .ok (.invokestatic 33, 3) := by decide +kernel
theorem dX1_isBridge_8 : decode cX1_isBridge 8 = .ok (.iload_n 2, 1) := by decide +kernel
theorem dX1_isBridge_9 : decode cX1_isBridge 9 = .ok (.invokestatic 29, 3) := by decide +kernel
theorem dX1_isBridge_12 : decode cX1_isBridge 12 = .ok (.ifCond .ne 5, 3) := by decide +kernel
theorem dX1_isBridge_15 : decode cX1_isBridge 15 = .ok (.iconst 0, 1) := by decide +kernel
theorem dX1_isBridge_16 : decode cX1_isBridge 16 = .ok (.ireturn, 1) := by decide +kernel
theorem dX1_isBridge_17 : decode cX1_isBridge 17 = .ok (.aload_n 0, 1) := by decide +kernel
theorem dX1_isBridge_18 : decode cX1_isBridge 18 = .ok (.iload_n 1, 1) := by decide +kernel
theorem dX1_isBridge_19 : decode cX1_isBridge 19 = .ok (.iload_n 2, 1) := by decide +kernel
theorem dX1_isBridge_20 : decode cX1_isBridge 20 = .ok (.invokevirtual 70, 3) := by decide +kernel
theorem dX1_isBridge_23 : decode cX1_isBridge 23 = .ok (.aload_n 0, 1) := by decide +kernel
theorem dX1_isBridge_24 : decode cX1_isBridge 24 = .ok (.iload_n 1, 1) := by decide +kernel
theorem dX1_isBridge_25 : decode cX1_isBridge 25 = .ok (.invokevirtual 54, 3) := by decide +kernel
theorem dX1_isBridge_28 : decode cX1_isBridge 28 = .ok (.aload_n 0, 1) := by decide +kernel
theorem dX1_isBridge_29 : decode cX1_isBridge 29 = .ok (.iload_n 1, 1) := by decide +kernel
theorem dX1_isBridge_30 : decode cX1_isBridge 30 = .ok (.iload_n 2, 1) := by decide +kernel
theorem dX1_isBridge_31 : decode cX1_isBridge 31 = .ok (.invokevirtual 74, 3) := by decide +kernel
theorem dX1_isBridge_34 : decode cX1_isBridge 34 = .ok (.aload_n 0, 1) := by decide +kernel
theorem dX1_isBridge_35 : decode cX1_isBridge 35 = .ok (.iload_n 2, 1) := by decide +kernel
theorem dX1_isBridge_36 : decode cX1_isBridge 36 = .ok (.invokevirtual 51, 3) := by decide +kernel
theorem dX1_isBridge_39 : decode cX1_isBridge 39 = .ok (.iconst (-1), 1) := by decide +kernel
theorem dX1_isBridge_40 : decode cX1_isBridge 40 = .ok (.if_icmp .ne 7, 3) := by decide +kernel
theorem dX1_isBridge_43 : decode cX1_isBridge 43 = .ok (.iconst 1, 1) := by decide +kernel
theorem dX1_isBridge_44 : decode cX1_isBridge 44 = .ok (.goto 4, 3) := by decide +kernel
theorem dX1_isBridge_47 : decode cX1_isBridge 47 = .ok (.iconst 0, 1) := by decide +kernel
theorem dX1_isBridge_48 : decode cX1_isBridge 48 = .ok (.ireturn, 1) := by decide +kernel
set_option maxRecDepth 20000 in
theorem ggX1_fewestPosts_X1_leastPosts : GoodIn wsX1_fewestPosts wsX1_leastPosts := goodIn_r _ [5, 6, 7, 8, 9, 10, 11, 12, 13, 14, 15, 16, 17, 4, 18, 19, 20, 21, 2, 3, 22, 23, 24, 25] (by decide +kernel) (by decide +kernel)
set_option maxRecDepth 20000 in
theorem gX1_fewestPosts_X1_leastPosts : GoodIn wsX1_fewestPosts (va_wsS RX1 77 yX1_leastPosts wsX1_leastPosts) := goodIn_app (goodIn_of _ (by decide +kernel)) ggX1_fewestPosts_X1_leastPosts
theorem dX1_fewestPosts_0 : decode cX1_fewestPosts 0 = .ok (.iconst (-1), 1) := by decide +kernel
theorem dX1_fewestPosts_1 : decode cX1_fewestPosts 1 = .ok (.istore_n 1, 1) := by decide +kernel
theorem dX1_fewestPosts_2 : decode cX1_fewestPosts 2 = .ok (.iconst 0, 1) := by decide +kernel
theorem dX1_fewestPosts_3 : decode cX1_fewestPosts 3 = .ok (.istore_n 2, 1) := by decide +kernel
theorem dX1_fewestPosts_4 : decode cX1_fewestPosts 4 = .ok (.iload_n 2, 1) := by decide +kernel
theorem dX1_fewestPosts_5 : decode cX1_fewestPosts 5 = .ok (.bipush 16, 2) := by decide +kernel
theorem dX1_fewestPosts_7 : decode cX1_fewestPosts 7 = .ok (.if_icmp .gt 25, 3) := by decide +kernel
theorem dX1_fewestPosts_10 : decode cX1_fewestPosts 10 = .ok (.iload_n 1, 1) := by decide +kernel
theorem dX1_fewestPosts_11 : decode cX1_fewestPosts 11 = .ok (.iconst (-1), 1) := by decide +kernel
theorem dX1_fewestPosts_12 : decode cX1_fewestPosts 12 = .ok (.if_icmp .ne 20, 3) := by decide +kernel
theorem dX1_fewestPosts_15 : decode cX1_fewestPosts 15 = .ok (.aload_n 0, 1) := by decide +kernel
theorem dX1_fewestPosts_16 : decode cX1_fewestPosts 16 = .ok (.iconst 0, 1) := by decide +kernel
theorem dX1_fewestPosts_17 : decode cX1_fewestPosts 17 = .ok (.aload_n 0, 1) := by decide +kernel
theorem dX1_fewestPosts_18 : decode cX1_fewestPosts 18 = .ok (.getfield 9, 3) := by decide +kernel
theorem dX1_fewestPosts_21 : decode cX1_fewestPosts 21 = .ok (.iload_n 2, 1) := by decide +kernel
theorem dX1_fewestPosts_22 : decode cX1_fewestPosts 22 = .ok (.invokestatic 77, 3) := by decide +kernel
theorem dX1_fewestPosts_25 : decode cX1_fewestPosts 25 = .ok (.istore_n 1, 1) := by decide +kernel
theorem dX1_fewestPosts_26 : decode cX1_fewestPosts 26 = .ok (.iinc 2 1, 3) := by decide +kernel
theorem dX1_fewestPosts_29 : decode cX1_fewestPosts 29 = .ok (.goto (-25), 3) := by decide +kernel
theorem dX1_fewestPosts_32 : decode cX1_fewestPosts 32 = .ok (.iload_n 1, 1) := by decide +kernel
theorem dX1_fewestPosts_33 : decode cX1_fewestPosts 33 = .ok (.ireturn, 1) := by decide +kernel
set_option maxRecDepth 20000 in
theorem ggX1_leastPosts_X9_lowestOf : GoodIn wsX1_leastPosts wsX9_lowestOf := goodIn_r _ [3, 4, 5, 2, 6, 7, 8, 9] (by decide +kernel) (by decide +kernel)
set_option maxRecDepth 20000 in
theorem gX1_leastPosts_X9_lowestOf_n81 : GoodIn wsX1_leastPosts (wsX9_lowestOf) := ggX1_leastPosts_X9_lowestOf
set_option maxRecDepth 20000 in
theorem ggX1_leastPosts_X1_around : GoodIn wsX1_leastPosts wsX1_around := goodIn_r _ [14, 15, 16, 2, 17, 20, 21, 22, 23] (by decide +kernel) (by decide +kernel)
set_option maxRecDepth 20000 in
theorem gX1_leastPosts_X1_around : GoodIn wsX1_leastPosts (wsV RX1 41 RX1 yX1_around wsX1_around) := goodIn_app (goodIn_of _ (by decide +kernel)) ggX1_leastPosts_X1_around
set_option maxRecDepth 20000 in
theorem ggX1_leastPosts_X9_has : GoodIn wsX1_leastPosts wsX9_has := goodIn_r _ [6, 7, 8, 2, 9] (by decide +kernel) (by decide +kernel)
set_option maxRecDepth 20000 in
theorem gX1_leastPosts_X9_has_n29 : GoodIn wsX1_leastPosts (wsX9_has) := ggX1_leastPosts_X9_has
set_option maxRecDepth 20000 in
theorem ggX1_leastPosts_X1_leastPosts : GoodIn wsX1_leastPosts wsX1_leastPosts := goodIn_r _ [0, 1, 2, 3, 4, 5, 6, 7, 8, 9, 10, 11, 12, 13, 14, 15, 16, 17, 18, 19, 20, 21, 22, 23] (by decide +kernel) (by decide +kernel)
set_option maxRecDepth 20000 in
theorem gX1_leastPosts_X1_leastPosts : GoodIn wsX1_leastPosts (va_wsS RX1 77 yX1_leastPosts wsX1_leastPosts) := goodIn_app (goodIn_of _ (by decide +kernel)) ggX1_leastPosts_X1_leastPosts
theorem dX1_leastPosts_0 : decode cX1_leastPosts 0 = .ok (.iload_n 2, 1) := by decide +kernel
theorem dX1_leastPosts_1 : decode cX1_leastPosts 1 = .ok (.ifCond .ne 5, 3) := by decide +kernel
theorem dX1_leastPosts_4 : decode cX1_leastPosts 4 = .ok (.iload_n 1, 1) := by decide +kernel
theorem dX1_leastPosts_5 : decode cX1_leastPosts 5 = .ok (.ireturn, 1) := by decide +kernel
theorem dX1_leastPosts_6 : decode cX1_leastPosts 6 = .ok (.iload_n 3, 1) := by decide +kernel
theorem dX1_leastPosts_7 : decode cX1_leastPosts 7 = .ok (.ifCond .gt 5, 3) := by decide +kernel
theorem dX1_leastPosts_10 : decode cX1_leastPosts 10 = .ok (.iconst (-1), 1) := by decide +kernel
theorem dX1_leastPosts_11 : decode cX1_leastPosts 11 = .ok (.ireturn, 1) := by decide +kernel
theorem dX1_leastPosts_12 : decode cX1_leastPosts 12 = .ok (.aload_n 0, 1) := by decide +kernel
theorem dX1_leastPosts_13 : decode cX1_leastPosts 13 = .ok (.iload_n 2, 1) := by decide +kernel
theorem dX1_leastPosts_14 : decode cX1_leastPosts 14 = .ok (.invokestatic 81, 3) := by decide +kernel
theorem dX1_leastPosts_17 : decode cX1_leastPosts 17 = .ok (.invokevirtual 41, 3) := by decide +kernel
theorem dX1_leastPosts_20 : decode cX1_leastPosts 20 = .ok (.istore 4, 2) := by decide +kernel
theorem dX1_leastPosts_22 : decode cX1_leastPosts 22 = .ok (.iconst (-1), 1) := by decide +kernel
theorem dX1_leastPosts_23 : decode cX1_leastPosts 23 = .ok (.istore 5, 2) := by decide +kernel
theorem dX1_leastPosts_25 : decode cX1_leastPosts 25 = .ok (.iconst 0, 1) := by decide +kernel
theorem dX1_leastPosts_26 : decode cX1_leastPosts 26 = .ok (.istore 6, 2) := by decide +kernel
theorem dX1_leastPosts_28 : decode cX1_leastPosts 28 = .ok (.iload 6, 2) := by decide +kernel
theorem dX1_leastPosts_30 : decode cX1_leastPosts 30 = .ok (.bipush 16, 2) := by decide +kernel
theorem dX1_leastPosts_32 : decode cX1_leastPosts 32 = .ok (.if_icmp .ge 67, 3) := by decide +kernel
theorem dX1_leastPosts_35 : decode cX1_leastPosts 35 = .ok (.iload 4, 2) := by decide +kernel
theorem dX1_leastPosts_37 : decode cX1_leastPosts 37 = .ok (.iload 6, 2) := by decide +kernel
theorem dX1_leastPosts_39 : decode cX1_leastPosts 39 = .ok (.invokestatic 29, 3) := by decide +kernel
theorem dX1_leastPosts_42 : decode cX1_leastPosts 42 = .ok (.ifCond .eq 51, 3) := by decide +kernel
theorem dX1_leastPosts_45 : decode cX1_leastPosts 45 = .ok (.aload_n 0, 1) := by decide +kernel
theorem dX1_leastPosts_46 : decode cX1_leastPosts 46 = .ok (.iload_n 1, 1) := by decide +kernel
theorem dX1_leastPosts_47 : decode cX1_leastPosts 47 = .ok (.iconst 1, 1) := by decide +kernel
theorem dX1_leastPosts_48 : decode cX1_leastPosts 48 = .ok (.iload 6, 2) := by decide +kernel
theorem dX1_leastPosts_50 : decode cX1_leastPosts 50 = .ok (.ishl, 1) := by decide +kernel
theorem dX1_leastPosts_51 : decode cX1_leastPosts 51 = .ok (.ior, 1) := by decide +kernel
theorem dX1_leastPosts_52 : decode cX1_leastPosts 52 = .ok (.iload_n 2, 1) := by decide +kernel
theorem dX1_leastPosts_53 : decode cX1_leastPosts 53 = .ok (.aload_n 0, 1) := by decide +kernel
theorem dX1_leastPosts_54 : decode cX1_leastPosts 54 = .ok (.iload 6, 2) := by decide +kernel
theorem dX1_leastPosts_56 : decode cX1_leastPosts 56 = .ok (.invokevirtual 41, 3) := by decide +kernel
theorem dX1_leastPosts_59 : decode cX1_leastPosts 59 = .ok (.iconst (-1), 1) := by decide +kernel
theorem dX1_leastPosts_60 : decode cX1_leastPosts 60 = .ok (.ixor, 1) := by decide +kernel
theorem dX1_leastPosts_61 : decode cX1_leastPosts 61 = .ok (.iand, 1) := by decide +kernel
theorem dX1_leastPosts_62 : decode cX1_leastPosts 62 = .ok (.iload_n 3, 1) := by decide +kernel
theorem dX1_leastPosts_63 : decode cX1_leastPosts 63 = .ok (.iconst 1, 1) := by decide +kernel
theorem dX1_leastPosts_64 : decode cX1_leastPosts 64 = .ok (.isub, 1) := by decide +kernel
theorem dX1_leastPosts_65 : decode cX1_leastPosts 65 = .ok (.invokestatic 77, 3) := by decide +kernel
theorem dX1_leastPosts_68 : decode cX1_leastPosts 68 = .ok (.istore 7, 2) := by decide +kernel
theorem dX1_leastPosts_70 : decode cX1_leastPosts 70 = .ok (.iload 7, 2) := by decide +kernel
theorem dX1_leastPosts_72 : decode cX1_leastPosts 72 = .ok (.iconst (-1), 1) := by decide +kernel
theorem dX1_leastPosts_73 : decode cX1_leastPosts 73 = .ok (.if_icmp .eq 20, 3) := by decide +kernel
theorem dX1_leastPosts_76 : decode cX1_leastPosts 76 = .ok (.iload 5, 2) := by decide +kernel
theorem dX1_leastPosts_78 : decode cX1_leastPosts 78 = .ok (.iconst (-1), 1) := by decide +kernel
theorem dX1_leastPosts_79 : decode cX1_leastPosts 79 = .ok (.if_icmp .eq 10, 3) := by decide +kernel
theorem dX1_leastPosts_82 : decode cX1_leastPosts 82 = .ok (.iload 7, 2) := by decide +kernel
theorem dX1_leastPosts_84 : decode cX1_leastPosts 84 = .ok (.iload 5, 2) := by decide +kernel
theorem dX1_leastPosts_86 : decode cX1_leastPosts 86 = .ok (.if_icmp .ge 7, 3) := by decide +kernel
theorem dX1_leastPosts_89 : decode cX1_leastPosts 89 = .ok (.iload 7, 2) := by decide +kernel
theorem dX1_leastPosts_91 : decode cX1_leastPosts 91 = .ok (.istore 5, 2) := by decide +kernel
theorem dX1_leastPosts_93 : decode cX1_leastPosts 93 = .ok (.iinc 6 1, 3) := by decide +kernel
theorem dX1_leastPosts_96 : decode cX1_leastPosts 96 = .ok (.goto (-68), 3) := by decide +kernel
theorem dX1_leastPosts_99 : decode cX1_leastPosts 99 = .ok (.iload 5, 2) := by decide +kernel
theorem dX1_leastPosts_101 : decode cX1_leastPosts 101 = .ok (.ireturn, 1) := by decide +kernel
theorem dX2_init_0 : decode cX2_init 0 = .ok (.aload_n 0, 1) := by decide +kernel
theorem dX2_init_1 : decode cX2_init 1 = .ok (.invokespecial 3, 3) := by decide +kernel
theorem dX2_init_4 : decode cX2_init 4 = .ok (.aload_n 0, 1) := by decide +kernel
theorem dX2_init_5 : decode cX2_init 5 = .ok (.sipush 240, 3) := by decide +kernel
theorem dX2_init_8 : decode cX2_init 8 = .ok (.newarray .int, 2) := by decide +kernel
theorem dX2_init_10 : decode cX2_init 10 = .ok (.putfield 11, 3) := by decide +kernel
theorem dX2_init_13 : decode cX2_init 13 = .ok (.aload_n 0, 1) := by decide +kernel
theorem dX2_init_14 : decode cX2_init 14 = .ok (.sipush 240, 3) := by decide +kernel
theorem dX2_init_17 : decode cX2_init 17 = .ok (.newarray .int, 2) := by decide +kernel
theorem dX2_init_19 : decode cX2_init 19 = .ok (.putfield 15, 3) := by decide +kernel
theorem dX2_init_22 : decode cX2_init 22 = .ok (.aload_n 0, 1) := by decide +kernel
theorem dX2_init_23 : decode cX2_init 23 = .ok (.bipush 16, 2) := by decide +kernel
theorem dX2_init_25 : decode cX2_init 25 = .ok (.newarray .int, 2) := by decide +kernel
theorem dX2_init_27 : decode cX2_init 27 = .ok (.putfield 18, 3) := by decide +kernel
theorem dX2_init_30 : decode cX2_init 30 = .ok (.aload_n 0, 1) := by decide +kernel
theorem dX2_init_31 : decode cX2_init 31 = .ok (.bipush 16, 2) := by decide +kernel
theorem dX2_init_33 : decode cX2_init 33 = .ok (.newarray .int, 2) := by decide +kernel
theorem dX2_init_35 : decode cX2_init 35 = .ok (.putfield 21, 3) := by decide +kernel
theorem dX2_init_38 : decode cX2_init 38 = .ok (.aload_n 0, 1) := by decide +kernel
theorem dX2_init_39 : decode cX2_init 39 = .ok (.bipush 16, 2) := by decide +kernel
theorem dX2_init_41 : decode cX2_init 41 = .ok (.newarray .int, 2) := by decide +kernel
theorem dX2_init_43 : decode cX2_init 43 = .ok (.putfield 24, 3) := by decide +kernel
theorem dX2_init_46 : decode cX2_init 46 = .ok (.aload_n 0, 1) := by decide +kernel
theorem dX2_init_47 : decode cX2_init 47 = .ok (.bipush 16, 2) := by decide +kernel
theorem dX2_init_49 : decode cX2_init 49 = .ok (.newarray .int, 2) := by decide +kernel
theorem dX2_init_51 : decode cX2_init 51 = .ok (.putfield 27, 3) := by decide +kernel
theorem dX2_init_54 : decode cX2_init 54 = .ok (.aload_n 0, 1) := by decide +kernel
theorem dX2_init_55 : decode cX2_init 55 = .ok (.sipush 240, 3) := by decide +kernel
theorem dX2_init_58 : decode cX2_init 58 = .ok (.newarray .int, 2) := by decide +kernel
theorem dX2_init_60 : decode cX2_init 60 = .ok (.putfield 30, 3) := by decide +kernel
theorem dX2_init_63 : decode cX2_init 63 = .ok (.aload_n 0, 1) := by decide +kernel
theorem dX2_init_64 : decode cX2_init 64 = .ok (.iconst 0, 1) := by decide +kernel
theorem dX2_init_65 : decode cX2_init 65 = .ok (.putfield 33, 3) := by decide +kernel
theorem dX2_init_68 : decode cX2_init 68 = .ok (.aload_n 0, 1) := by decide +kernel
theorem dX2_init_69 : decode cX2_init 69 = .ok (.iconst 0, 1) := by decide +kernel
theorem dX2_init_70 : decode cX2_init 70 = .ok (.putfield 37, 3) := by decide +kernel
theorem dX2_init_73 : decode cX2_init 73 = .ok (.aload_n 0, 1) := by decide +kernel
theorem dX2_init_74 : decode cX2_init 74 = .ok (.iconst 0, 1) := by decide +kernel
theorem dX2_init_75 : decode cX2_init 75 = .ok (.putfield 41, 3) := by decide +kernel
theorem dX2_init_78 : decode cX2_init 78 = .ok (.return_, 1) := by decide +kernel
set_option maxRecDepth 20000 in
theorem ggX2_read_X2_rule : GoodIn wsX2_read wsX2_rule := goodIn_r _ [7, 2, 8, 9, 1, 10, 11, 12, 13, 14, 15, 16, 17, 18, 19, 20, 21, 22, 23, 24, 25, 26, 27, 28, 29, 30, 31, 32, 33, 34, 35, 36, 37, 38, 39, 40, 41, 6, 42, 43, 44, 45, 46, 47, 48, 49, 50, 51, 52, 53, 54, 55, 56, 57, 58, 59, 60, 61, 62, 63, 64, 65, 66, 67, 68, 69, 70, 71, 72, 73, 74, 75, 76, 77, 78, 79, 80, 81, 82, 83, 84, 85, 86, 87, 88, 89, 90, 91, 92, 93, 94, 95, 96, 97, 98, 105, 106, 107, 108, 109, 110, 111, 112, 113, 114, 115, 116, 117, 118, 119, 120] (by decide +kernel) (by decide +kernel)
set_option maxRecDepth 20000 in
theorem gX2_read_X2_rule : GoodIn wsX2_read (wsV RX2 44 RX2 yX2_rule wsX2_rule) := goodIn_app (goodIn_of _ (by decide +kernel)) ggX2_read_X2_rule
set_option maxRecDepth 20000 in
theorem ggX2_read_X7_goesOn : GoodIn wsX2_read wsX7_goesOn := goodIn_r _ [102, 103, 47, 48, 15, 49, 31, 67, 13, 14, 16, 17, 18, 19, 20, 21, 22, 104, 64, 65, 66, 68, 24, 25, 26, 27, 28, 29, 30, 32, 69, 34, 35, 36, 115, 116, 117, 118, 119, 120] (by decide +kernel) (by decide +kernel)
set_option maxRecDepth 20000 in
theorem gX2_read_X7_goesOn : GoodIn wsX2_read (wsV RX2 48 RX7 yX7_goesOn wsX7_goesOn) := goodIn_app (goodIn_of _ (by decide +kernel)) ggX2_read_X7_goesOn
theorem dX2_read_0 : decode cX2_read 0 = .ok (.aload_n 0, 1) := by decide +kernel
theorem dX2_read_1 : decode cX2_read 1 = .ok (.iconst 0, 1) := by decide +kernel
theorem dX2_read_2 : decode cX2_read 2 = .ok (.putfield 33, 3) := by decide +kernel
theorem dX2_read_5 : decode cX2_read 5 = .ok (.aload_n 0, 1) := by decide +kernel
theorem dX2_read_6 : decode cX2_read 6 = .ok (.iconst 0, 1) := by decide +kernel
theorem dX2_read_7 : decode cX2_read 7 = .ok (.putfield 41, 3) := by decide +kernel
theorem dX2_read_10 : decode cX2_read 10 = .ok (.iconst 1, 1) := by decide +kernel
theorem dX2_read_11 : decode cX2_read 11 = .ok (.istore_n 2, 1) := by decide +kernel
theorem dX2_read_12 : decode cX2_read 12 = .ok (.iconst 0, 1) := by decide +kernel
theorem dX2_read_13 : decode cX2_read 13 = .ok (.istore_n 3, 1) := by decide +kernel
theorem dX2_read_14 : decode cX2_read 14 = .ok (.iload_n 2, 1) := by decide +kernel
theorem dX2_read_15 : decode cX2_read 15 = .ok (.ifCond .eq 26, 3) := by decide +kernel
theorem dX2_read_18 : decode cX2_read 18 = .ok (.iload_n 3, 1) := by decide +kernel
theorem dX2_read_19 : decode cX2_read 19 = .ok (.sipush 240, 3) := by decide +kernel
theorem dX2_read_22 : decode cX2_read 22 = .ok (.if_icmp .ge 19, 3) := by decide +kernel
theorem dX2_read_25 : decode cX2_read 25 = .ok (.aload_n 0, 1) := by decide +kernel
theorem dX2_read_26 : decode cX2_read 26 = .ok (.aload_n 1, 1) := by decide +kernel
theorem dX2_read_27 : decode cX2_read 27 = .ok (.invokevirtual 44, 3) := by decide +kernel
theorem dX2_read_30 : decode cX2_read 30 = .ok (.aload_n 1, 1) := by decide +kernel
theorem dX2_read_31 : decode cX2_read 31 = .ok (.invokevirtual 48, 3) := by decide +kernel
theorem dX2_read_34 : decode cX2_read 34 = .ok (.istore_n 2, 1) := by decide +kernel
theorem dX2_read_35 : decode cX2_read 35 = .ok (.iinc 3 1, 3) := by decide +kernel
theorem dX2_read_38 : decode cX2_read 38 = .ok (.goto (-24), 3) := by decide +kernel
theorem dX2_read_41 : decode cX2_read 41 = .ok (.return_, 1) := by decide +kernel
set_option maxRecDepth 20000 in
theorem ggX2_rule_X7_look : GoodIn wsX2_rule wsX7_look := goodIn_r _ [11, 12, 13, 14, 15, 16, 17, 105, 106, 107, 108, 109, 110] (by decide +kernel) (by decide +kernel)
set_option maxRecDepth 20000 in
theorem gX2_rule_X7_look : GoodIn wsX2_rule (wsV RX2 54 RX7 yX7_look wsX7_look) := goodIn_app (goodIn_of _ (by decide +kernel)) ggX2_rule_X7_look
set_option maxRecDepth 20000 in
theorem ggX2_rule_X7_fail : GoodIn wsX2_rule wsX7_fail := goodIn_r _ [21, 12, 22, 23, 24, 10, 25, 26, 27, 105, 106, 107, 108, 109, 110] (by decide +kernel) (by decide +kernel)
set_option maxRecDepth 20000 in
theorem gX2_rule_X7_fail : GoodIn wsX2_rule (wsV RX2 58 RX7 yX7_fail wsX7_fail) := goodIn_app (goodIn_of _ (by decide +kernel)) ggX2_rule_X7_fail
set_option maxRecDepth 20000 in
theorem ggX2_rule_X7_step : GoodIn wsX2_rule wsX7_step := goodIn_r _ [31, 12, 105, 106, 107, 108, 109, 110] (by decide +kernel) (by decide +kernel)
set_option maxRecDepth 20000 in
theorem gX2_rule_X7_step : GoodIn wsX2_rule (wsV RX2 62 RX7 yX7_step wsX7_step) := goodIn_app (goodIn_of _ (by decide +kernel)) ggX2_rule_X7_step
set_option maxRecDepth 20000 in
theorem ggX2_rule_X9_put : GoodIn wsX2_rule wsX9_put := goodIn_r _ [33] (by decide +kernel) (by decide +kernel)
set_option maxRecDepth 20000 in
theorem gX2_rule_X9_put_n65 : GoodIn wsX2_rule (wsX9_put) := ggX2_rule_X9_put
set_option maxRecDepth 20000 in
theorem ggX2_rule_X2_sum : GoodIn wsX2_rule wsX2_sum := goodIn_r _ [38, 39, 40, 41, 37, 42, 43, 44, 10, 45, 26, 7, 8, 9, 11, 12, 13, 14, 15, 16, 17, 28, 29, 30, 31, 46, 47, 48, 49, 50, 4, 51, 32, 33, 52, 53, 54, 55, 18, 19, 20, 21, 22, 23, 24, 25, 27, 34, 35, 36, 56, 57, 58, 59, 60, 61, 62, 63, 64, 65, 66, 67, 68, 69, 70, 71, 72, 73, 74, 75, 76, 77, 78, 79, 80, 81, 82, 105, 106, 107, 108, 109, 110, 95, 96, 97, 98, 99, 100, 101, 102, 103, 104] (by decide +kernel) (by decide +kernel)
set_option maxRecDepth 20000 in
theorem gX2_rule_X2_sum : GoodIn wsX2_rule (wsV RX2 69 RX2 yX2_sum wsX2_sum) := goodIn_app (goodIn_of _ (by decide +kernel)) ggX2_rule_X2_sum
set_option maxRecDepth 20000 in
theorem ggX2_rule_X7_isFine : GoodIn wsX2_rule wsX7_isFine := goodIn_r _ [45, 26, 105, 106, 107, 108, 109, 110] (by decide +kernel) (by decide +kernel)
set_option maxRecDepth 20000 in
theorem gX2_rule_X7_isFine : GoodIn wsX2_rule (wsV RX2 73 RX7 yX7_isFine wsX7_isFine) := goodIn_app (goodIn_of _ (by decide +kernel)) ggX2_rule_X7_isFine
set_option maxRecDepth 20000 in
theorem ggX2_rule_X7_take : GoodIn wsX2_rule wsX7_take := goodIn_r _ [62, 63, 8, 9, 10, 11, 12, 13, 14, 15, 16, 17, 64, 19, 20, 21, 22, 23, 24, 25, 26, 27, 65, 29, 30, 31, 105, 106, 107, 108, 109, 110] (by decide +kernel) (by decide +kernel)
set_option maxRecDepth 20000 in
theorem gX2_rule_X7_take : GoodIn wsX2_rule (wsV RX2 76 RX7 yX7_take wsX7_take) := goodIn_app (goodIn_of _ (by decide +kernel)) ggX2_rule_X7_take
set_option maxRecDepth 20000 in
theorem ggX2_rule_X2_anyOf : GoodIn wsX2_rule wsX2_anyOf := goodIn_r _ [86, 51, 4, 87, 88, 89, 37, 42, 43, 44, 10, 45, 26, 7, 8, 9, 11, 12, 13, 14, 15, 16, 17, 28, 29, 30, 31, 46, 47, 48, 49, 50, 32, 33, 90, 91, 92, 93, 94, 53, 54, 55, 18, 19, 20, 21, 22, 23, 24, 25, 27, 83, 84, 85, 56, 57, 58, 59, 60, 61, 62, 63, 64, 65, 34, 35, 36, 38, 39, 40, 41, 52, 66, 67, 68, 69, 70, 71, 72, 73, 74, 75, 76, 77, 78, 79, 80, 81, 82, 95, 96, 97, 98, 99, 100, 101, 102, 103, 104, 105, 106, 107, 108, 109, 110] (by decide +kernel) (by decide +kernel)
set_option maxRecDepth 20000 in
theorem gX2_rule_X2_anyOf : GoodIn wsX2_rule (wsV RX2 80 RX2 yX2_anyOf wsX2_anyOf) := goodIn_app (goodIn_of _ (by decide +kernel)) ggX2_rule_X2_anyOf
set_option maxRecDepth 20000 in
theorem ggX2_rule_X2_close : GoodIn wsX2_rule wsX2_close := goodIn_r _ [58, 42, 43, 44, 10, 45, 26, 59, 60, 61, 62, 63, 8, 9, 11, 12, 13, 14, 15, 16, 17, 64, 19, 20, 21, 22, 23, 24, 25, 27, 65, 29, 30, 31, 105, 106, 107, 108, 109, 110] (by decide +kernel) (by decide +kernel)
set_option maxRecDepth 20000 in
theorem gX2_rule_X2_close : GoodIn wsX2_rule (va_wsS RX2 83 yX2_close wsX2_close) := goodIn_app (goodIn_of _ (by decide +kernel)) ggX2_rule_X2_close
theorem dX2_rule_0 : decode cX2_rule 0 = .ok (.aload_n 1, 1) := by decide +kernel
theorem dX2_rule_1 : decode cX2_rule 1 = .ok (.invokevirtual 54, 3) := by decide +kernel
theorem dX2_rule_4 : decode cX2_rule 4 = .ok (.istore_n 2, 1) := by decide +kernel
theorem dX2_rule_5 : decode cX2_rule 5 = .ok (.iload_n 2, 1) := by decide +kernel
theorem dX2_rule_6 : decode cX2_rule 6 = .ok (.bipush 119, 2) := by decide +kernel
theorem dX2_rule_8 : decode cX2_rule 8 = .ok (.if_icmp .eq 21, 3) := by decide +kernel
theorem dX2_rule_11 : decode cX2_rule 11 = .ok (.iload_n 2, 1) := by decide +kernel
theorem dX2_rule_12 : decode cX2_rule 12 = .ok (.bipush 114, 2) := by decide +kernel
theorem dX2_rule_14 : decode cX2_rule 14 = .ok (.if_icmp .eq 15, 3) := by decide +kernel
theorem dX2_rule_17 : decode cX2_rule 17 = .ok (.iload_n 2, 1) := by decide +kernel
theorem dX2_rule_18 : decode cX2_rule 18 = .ok (.bipush 115, 2) := by decide +kernel
theorem dX2_rule_20 : decode cX2_rule 20 = .ok (.if_icmp .eq 9, 3) := by decide +kernel
theorem dX2_rule_23 : decode cX2_rule 23 = .ok (.aload_n 1, 1) := by decide +kernel
theorem dX2_rule_24 : decode cX2_rule 24 = .ok (.iconst 1, 1) := by decide +kernel
theorem dX2_rule_25 : decode cX2_rule 25 = .ok (.invokevirtual 58, 3) := by decide +kernel
theorem dX2_rule_28 : decode cX2_rule 28 = .ok (.return_, 1) := by decide +kernel
theorem dX2_rule_29 : decode cX2_rule 29 = .ok (.aload_n 0, 1) := by decide +kernel
theorem dX2_rule_30 : decode cX2_rule 30 = .ok (.getfield 41, 3) := by decide +kernel
theorem dX2_rule_33 : decode cX2_rule 33 = .ok (.bipush 16, 2) := by decide +kernel
theorem dX2_rule_35 : decode cX2_rule 35 = .ok (.if_icmp .lt 9, 3) := by decide +kernel
theorem dX2_rule_38 : decode cX2_rule 38 = .ok (.aload_n 1, 1) := by decide +kernel
theorem dX2_rule_39 : decode cX2_rule 39 = .ok (.iconst 4, 1) := by decide +kernel
theorem dX2_rule_40 : decode cX2_rule 40 = .ok (.invokevirtual 58, 3) := by decide +kernel
theorem dX2_rule_43 : decode cX2_rule 43 = .ok (.return_, 1) := by decide +kernel
theorem dX2_rule_44 : decode cX2_rule 44 = .ok (.aload_n 1, 1) := by decide +kernel
theorem dX2_rule_45 : decode cX2_rule 45 = .ok (.invokevirtual 62, 3) := by decide +kernel
theorem dX2_rule_48 : decode cX2_rule 48 = .ok (.aload_n 0, 1) := by decide +kernel
theorem dX2_rule_49 : decode cX2_rule 49 = .ok (.getfield 18, 3) := by decide +kernel
theorem dX2_rule_52 : decode cX2_rule 52 = .ok (.aload_n 0, 1) := by decide +kernel
theorem dX2_rule_53 : decode cX2_rule 53 = .ok (.getfield 41, 3) := by decide +kernel
theorem dX2_rule_56 : decode cX2_rule 56 = .ok (.iload_n 2, 1) := by decide +kernel
theorem dX2_rule_57 : decode cX2_rule 57 = .ok (.invokestatic 65, 3) := by decide +kernel
theorem dX2_rule_60 : decode cX2_rule 60 = .ok (.aload_n 0, 1) := by decide +kernel
theorem dX2_rule_61 : decode cX2_rule 61 = .ok (.getfield 21, 3) := by decide +kernel
theorem dX2_rule_64 : decode cX2_rule 64 = .ok (.aload_n 0, 1) := by decide +kernel
theorem dX2_rule_65 : decode cX2_rule 65 = .ok (.getfield 41, 3) := by decide +kernel
theorem dX2_rule_68 : decode cX2_rule 68 = .ok (.aload_n 0, 1) := by decide +kernel
theorem dX2_rule_69 : decode cX2_rule 69 = .ok (.getfield 33, 3) := by decide +kernel
theorem dX2_rule_72 : decode cX2_rule 72 = .ok (.invokestatic 65, 3) := by decide +kernel
theorem dX2_rule_75 : decode cX2_rule 75 = .ok (.iload_n 2, 1) := by decide +kernel
theorem dX2_rule_76 : decode cX2_rule 76 = .ok (.bipush 115, 2) := by decide +kernel
theorem dX2_rule_78 : decode cX2_rule 78 = .ok (.if_icmp .eq 9, 3) := by decide +kernel
theorem dX2_rule_81 : decode cX2_rule 81 = .ok (.aload_n 0, 1) := by decide +kernel
theorem dX2_rule_82 : decode cX2_rule 82 = .ok (.aload_n 1, 1) := by decide +kernel
theorem dX2_rule_83 : decode cX2_rule 83 = .ok (.iconst 0, 1) := by decide +kernel
theorem dX2_rule_84 : decode cX2_rule 84 = .ok (.invokevirtual 69, 3) := by decide +kernel
theorem dX2_rule_87 : decode cX2_rule 87 = .ok (.aload_n 0, 1) := by decide +kernel
theorem dX2_rule_88 : decode cX2_rule 88 = .ok (.getfield 24, 3) := by decide +kernel
theorem dX2_rule_91 : decode cX2_rule 91 = .ok (.aload_n 0, 1) := by decide +kernel
theorem dX2_rule_92 : decode cX2_rule 92 = .ok (.getfield 41, 3) := by decide +kernel
theorem dX2_rule_95 : decode cX2_rule 95 = .ok (.aload_n 0, 1) := by decide +kernel
theorem dX2_rule_96 : decode cX2_rule 96 = .ok (.getfield 33, 3) := by decide +kernel
theorem dX2_rule_99 : decode cX2_rule 99 = .ok (.invokestatic 65, 3) := by decide +kernel
theorem dX2_rule_102 : decode cX2_rule 102 = .ok (.aload_n 1, 1) := by decide +kernel
theorem dX2_rule_103 : decode cX2_rule 103 = .ok (.invokevirtual 73, 3) := by decide +kernel
theorem dX2_rule_106 : decode cX2_rule 106 = .ok (.ifCond .eq 24, 3) := by decide +kernel
theorem dX2_rule_109 : decode cX2_rule 109 = .ok (.aload_n 1, 1) := by decide +kernel
theorem dX2_rule_110 : decode cX2_rule 110 = .ok (.bipush 40, 2) := by decide +kernel
theorem dX2_rule_112 : decode cX2_rule 112 = .ok (.invokevirtual 76, 3) := by decide +kernel
theorem dX2_rule_115 : decode cX2_rule 115 = .ok (.ifCond .eq 15, 3) := by decide +kernel
theorem dX2_rule_118 : decode cX2_rule 118 = .ok (.aload_n 0, 1) := by decide +kernel
theorem dX2_rule_119 : decode cX2_rule 119 = .ok (.aload_n 1, 1) := by decide +kernel
theorem dX2_rule_120 : decode cX2_rule 120 = .ok (.iconst 1, 1) := by decide +kernel
theorem dX2_rule_121 : decode cX2_rule 121 = .ok (.invokevirtual 80, 3) := by decide +kernel
theorem dX2_rule_124 : decode cX2_rule 124 = .ok (.aload_n 1, 1) := by decide +kernel
theorem dX2_rule_125 : decode cX2_rule 125 = .ok (.bipush 41, 2) := by decide +kernel
theorem dX2_rule_127 : decode cX2_rule 127 = .ok (.invokestatic 83, 3) := by decide +kernel
theorem dX2_rule_130 : decode cX2_rule 130 = .ok (.aload_n 0, 1) := by decide +kernel
theorem dX2_rule_131 : decode cX2_rule 131 = .ok (.getfield 27, 3) := by decide +kernel
theorem dX2_rule_134 : decode cX2_rule 134 = .ok (.aload_n 0, 1) := by decide +kernel
theorem dX2_rule_135 : decode cX2_rule 135 = .ok (.getfield 41, 3) := by decide +kernel
theorem dX2_rule_138 : decode cX2_rule 138 = .ok (.aload_n 0, 1) := by decide +kernel
theorem dX2_rule_139 : decode cX2_rule 139 = .ok (.getfield 33, 3) := by decide +kernel
theorem dX2_rule_142 : decode cX2_rule 142 = .ok (.invokestatic 65, 3) := by decide +kernel
theorem dX2_rule_145 : decode cX2_rule 145 = .ok (.aload_n 0, 1) := by decide +kernel
theorem dX2_rule_146 : decode cX2_rule 146 = .ok (.dup, 1) := by decide +kernel
theorem dX2_rule_147 : decode cX2_rule 147 = .ok (.getfield 41, 3) := by decide +kernel
theorem dX2_rule_150 : decode cX2_rule 150 = .ok (.iconst 1, 1) := by decide +kernel
theorem dX2_rule_151 : decode cX2_rule 151 = .ok (.iadd, 1) := by decide +kernel
theorem dX2_rule_152 : decode cX2_rule 152 = .ok (.putfield 41, 3) := by decide +kernel
theorem dX2_rule_155 : decode cX2_rule 155 = .ok (.return_, 1) := by decide +kernel
set_option maxRecDepth 20000 in
theorem ggX2_close_X7_isFine : GoodIn wsX2_close wsX7_isFine := goodIn_r _ [5, 6, 34, 35, 36, 37, 38, 39] (by decide +kernel) (by decide +kernel)
set_option maxRecDepth 20000 in
theorem gX2_close_X7_isFine : GoodIn wsX2_close (wsV RX2 73 RX7 yX7_isFine wsX7_isFine) := goodIn_app (goodIn_of _ (by decide +kernel)) ggX2_close_X7_isFine
set_option maxRecDepth 20000 in
theorem ggX2_close_X7_take : GoodIn wsX2_close wsX7_take := goodIn_r _ [10, 11, 12, 13, 4, 14, 15, 16, 17, 18, 19, 20, 21, 22, 23, 24, 25, 26, 27, 28, 6, 29, 30, 31, 32, 33, 34, 35, 36, 37, 38, 39] (by decide +kernel) (by decide +kernel)
set_option maxRecDepth 20000 in
theorem gX2_close_X7_take : GoodIn wsX2_close (wsV RX2 76 RX7 yX7_take wsX7_take) := goodIn_app (goodIn_of _ (by decide +kernel)) ggX2_close_X7_take
theorem dX2_close_0 : decode cX2_close 0 = .ok (.aload_n 0, 1) := by decide +kernel
theorem dX2_close_1 : decode cX2_close 1 = .ok (.invokevirtual 73, 3) := by decide +kernel
theorem dX2_close_4 : decode cX2_close 4 = .ok (.ifCond .eq 9, 3) := by decide +kernel
theorem dX2_close_7 : decode cX2_close 7 = .ok (.aload_n 0, 1) := by decide +kernel
theorem dX2_close_8 : decode cX2_close 8 = .ok (.iload_n 1, 1) := by decide +kernel
theorem dX2_close_9 : decode cX2_close 9 = .ok (.invokevirtual 76, 3) := by decide +kernel
theorem dX2_close_12 : decode cX2_close 12 = .ok (.pop, 1) := by decide +kernel
theorem dX2_close_13 : decode cX2_close 13 = .ok (.return_, 1) := by decide +kernel
set_option maxRecDepth 20000 in
theorem ggX2_opens_X7_fail : GoodIn wsX2_opens wsX7_fail := goodIn_r _ [5, 6, 7, 8, 9, 4, 10, 11, 12, 17, 18, 19, 20, 21, 22] (by decide +kernel) (by decide +kernel)
set_option maxRecDepth 20000 in
theorem gX2_opens_X7_fail : GoodIn wsX2_opens (wsV RX2 58 RX7 yX7_fail wsX7_fail) := goodIn_app (goodIn_of _ (by decide +kernel)) ggX2_opens_X7_fail
set_option maxRecDepth 20000 in
theorem ggX2_opens_X7_step : GoodIn wsX2_opens wsX7_step := goodIn_r _ [16, 6, 17, 18, 19, 20, 21, 22] (by decide +kernel) (by decide +kernel)
set_option maxRecDepth 20000 in
theorem gX2_opens_X7_step : GoodIn wsX2_opens (wsV RX2 62 RX7 yX7_step wsX7_step) := goodIn_app (goodIn_of _ (by decide +kernel)) ggX2_opens_X7_step
theorem dX2_opens_0 : decode cX2_opens 0 = .ok (.iload_n 1, 1) := by decide +kernel
theorem dX2_opens_1 : decode cX2_opens 1 = .ok (.bipush 6, 2) := by decide +kernel
theorem dX2_opens_3 : decode cX2_opens 3 = .ok (.if_icmp .lt 10, 3) := by decide +kernel
theorem dX2_opens_6 : decode cX2_opens 6 = .ok (.aload_n 0, 1) := by decide +kernel
theorem dX2_opens_7 : decode cX2_opens 7 = .ok (.iconst 5, 1) := by decide +kernel
theorem dX2_opens_8 : decode cX2_opens 8 = .ok (.invokevirtual 58, 3) := by decide +kernel
theorem dX2_opens_11 : decode cX2_opens 11 = .ok (.iconst 0, 1) := by decide +kernel
theorem dX2_opens_12 : decode cX2_opens 12 = .ok (.ireturn, 1) := by decide +kernel
theorem dX2_opens_13 : decode cX2_opens 13 = .ok (.aload_n 0, 1) := by decide +kernel
theorem dX2_opens_14 : decode cX2_opens 14 = .ok (.invokevirtual 62, 3) := by decide +kernel
theorem dX2_opens_17 : decode cX2_opens 17 = .ok (.iconst 1, 1) := by decide +kernel
theorem dX2_opens_18 : decode cX2_opens 18 = .ok (.ireturn, 1) := by decide +kernel
set_option maxRecDepth 20000 in
theorem ggX2_anyOf_X2_allOf : GoodIn wsX2_anyOf wsX2_allOf := goodIn_r _ [34, 1, 2, 35, 36, 37, 6, 7, 8, 9, 10, 11, 12, 13, 14, 15, 16, 17, 18, 19, 20, 21, 22, 23, 24, 25, 26, 27, 28, 29, 30, 31, 32, 33, 0, 3, 4, 5, 38, 39, 40, 41, 42, 43, 44, 45, 46, 47, 48, 49, 50, 51, 52, 53, 54, 55, 56, 57, 58, 59, 60, 61, 62, 63, 64, 65, 66, 67, 68, 69, 70, 71, 72, 73, 74, 75, 76, 77, 78, 79, 80, 81, 82, 83, 84, 85, 86, 87, 88, 89, 90, 91, 92, 93, 94, 95, 96, 97, 98, 99, 100, 101, 102, 103, 104] (by decide +kernel) (by decide +kernel)
set_option maxRecDepth 20000 in
theorem gX2_anyOf_X2_allOf : GoodIn wsX2_anyOf (wsV RX2 86 RX2 yX2_allOf wsX2_allOf) := goodIn_app (goodIn_of _ (by decide +kernel)) ggX2_anyOf_X2_allOf
set_option maxRecDepth 20000 in
theorem ggX2_anyOf_X7_isFine : GoodIn wsX2_anyOf wsX7_isFine := goodIn_r _ [11, 12, 99, 100, 101, 102, 103, 104] (by decide +kernel) (by decide +kernel)
set_option maxRecDepth 20000 in
theorem gX2_anyOf_X7_isFine : GoodIn wsX2_anyOf (wsV RX2 73 RX7 yX7_isFine wsX7_isFine) := goodIn_app (goodIn_of _ (by decide +kernel)) ggX2_anyOf_X7_isFine
set_option maxRecDepth 20000 in
theorem ggX2_anyOf_X7_look : GoodIn wsX2_anyOf wsX7_look := goodIn_r _ [16, 17, 18, 19, 20, 21, 22, 99, 100, 101, 102, 103, 104] (by decide +kernel) (by decide +kernel)
set_option maxRecDepth 20000 in
theorem gX2_anyOf_X7_look : GoodIn wsX2_anyOf (wsV RX2 54 RX7 yX7_look wsX7_look) := goodIn_app (goodIn_of _ (by decide +kernel)) ggX2_anyOf_X7_look
set_option maxRecDepth 20000 in
theorem ggX2_anyOf_X7_step : GoodIn wsX2_anyOf wsX7_step := goodIn_r _ [26, 17, 99, 100, 101, 102, 103, 104] (by decide +kernel) (by decide +kernel)
set_option maxRecDepth 20000 in
theorem gX2_anyOf_X7_step : GoodIn wsX2_anyOf (wsV RX2 62 RX7 yX7_step wsX7_step) := goodIn_app (goodIn_of _ (by decide +kernel)) ggX2_anyOf_X7_step
set_option maxRecDepth 20000 in
theorem ggX2_anyOf_X2_order : GoodIn wsX2_anyOf wsX2_order := goodIn_r _ [30, 31, 2, 1, 32, 21, 33, 89, 90, 91, 92, 93, 94, 95, 96, 97, 98] (by decide +kernel) (by decide +kernel)
set_option maxRecDepth 20000 in
theorem gX2_anyOf_X2_order : GoodIn wsX2_anyOf (wsV RX2 89 RX2 yX2_order wsX2_order) := goodIn_app (goodIn_of _ (by decide +kernel)) ggX2_anyOf_X2_order
set_option maxRecDepth 20000 in
theorem ggX2_anyOf_X9_put : GoodIn wsX2_anyOf wsX9_put := goodIn_r _ [33] (by decide +kernel) (by decide +kernel)
set_option maxRecDepth 20000 in
theorem gX2_anyOf_X9_put_n65 : GoodIn wsX2_anyOf (wsX9_put) := ggX2_anyOf_X9_put
theorem dX2_anyOf_0 : decode cX2_anyOf 0 = .ok (.aload_n 0, 1) := by decide +kernel
theorem dX2_anyOf_1 : decode cX2_anyOf 1 = .ok (.aload_n 1, 1) := by decide +kernel
theorem dX2_anyOf_2 : decode cX2_anyOf 2 = .ok (.iload_n 2, 1) := by decide +kernel
theorem dX2_anyOf_3 : decode cX2_anyOf 3 = .ok (.invokevirtual 86, 3) := by decide +kernel
theorem dX2_anyOf_6 : decode cX2_anyOf 6 = .ok (.iconst 0, 1) := by decide +kernel
theorem dX2_anyOf_7 : decode cX2_anyOf 7 = .ok (.istore_n 3, 1) := by decide +kernel
theorem dX2_anyOf_8 : decode cX2_anyOf 8 = .ok (.iload_n 3, 1) := by decide +kernel
theorem dX2_anyOf_9 : decode cX2_anyOf 9 = .ok (.sipush 240, 3) := by decide +kernel
theorem dX2_anyOf_12 : decode cX2_anyOf 12 = .ok (.if_icmp .ge 56, 3) := by decide +kernel
theorem dX2_anyOf_15 : decode cX2_anyOf 15 = .ok (.aload_n 1, 1) := by decide +kernel
theorem dX2_anyOf_16 : decode cX2_anyOf 16 = .ok (.invokevirtual 73, 3) := by decide +kernel
theorem dX2_anyOf_19 : decode cX2_anyOf 19 = .ok (.ifCond .eq 49, 3) := by decide +kernel
theorem dX2_anyOf_22 : decode cX2_anyOf 22 = .ok (.aload_n 1, 1) := by decide +kernel
theorem dX2_anyOf_23 : decode cX2_anyOf 23 = .ok (.invokevirtual 54, 3) := by decide +kernel
theorem dX2_anyOf_26 : decode cX2_anyOf 26 = .ok (.bipush 124, 2) := by decide +kernel
theorem dX2_anyOf_28 : decode cX2_anyOf 28 = .ok (.if_icmp .ne 40, 3) := by decide +kernel
theorem dX2_anyOf_31 : decode cX2_anyOf 31 = .ok (.aload_n 1, 1) := by decide +kernel
theorem dX2_anyOf_32 : decode cX2_anyOf 32 = .ok (.invokevirtual 62, 3) := by decide +kernel
theorem dX2_anyOf_35 : decode cX2_anyOf 35 = .ok (.aload_n 0, 1) := by decide +kernel
theorem dX2_anyOf_36 : decode cX2_anyOf 36 = .ok (.iconst 5, 1) := by decide +kernel
theorem dX2_anyOf_37 : decode cX2_anyOf 37 = .ok (.iconst 0, 1) := by decide +kernel
theorem dX2_anyOf_38 : decode cX2_anyOf 38 = .ok (.invokevirtual 89, 3) := by decide +kernel
theorem dX2_anyOf_41 : decode cX2_anyOf 41 = .ok (.istore 4, 2) := by decide +kernel
theorem dX2_anyOf_43 : decode cX2_anyOf 43 = .ok (.aload_n 0, 1) := by decide +kernel
theorem dX2_anyOf_44 : decode cX2_anyOf 44 = .ok (.aload_n 1, 1) := by decide +kernel
theorem dX2_anyOf_45 : decode cX2_anyOf 45 = .ok (.iload_n 2, 1) := by decide +kernel
theorem dX2_anyOf_46 : decode cX2_anyOf 46 = .ok (.invokevirtual 86, 3) := by decide +kernel
theorem dX2_anyOf_49 : decode cX2_anyOf 49 = .ok (.aload_n 0, 1) := by decide +kernel
theorem dX2_anyOf_50 : decode cX2_anyOf 50 = .ok (.getfield 15, 3) := by decide +kernel
theorem dX2_anyOf_53 : decode cX2_anyOf 53 = .ok (.iload 4, 2) := by decide +kernel
theorem dX2_anyOf_55 : decode cX2_anyOf 55 = .ok (.aload_n 0, 1) := by decide +kernel
theorem dX2_anyOf_56 : decode cX2_anyOf 56 = .ok (.getfield 33, 3) := by decide +kernel
theorem dX2_anyOf_59 : decode cX2_anyOf 59 = .ok (.invokestatic 65, 3) := by decide +kernel
theorem dX2_anyOf_62 : decode cX2_anyOf 62 = .ok (.iinc 3 1, 3) := by decide +kernel
theorem dX2_anyOf_65 : decode cX2_anyOf 65 = .ok (.goto (-57), 3) := by decide +kernel
theorem dX2_anyOf_68 : decode cX2_anyOf 68 = .ok (.return_, 1) := by decide +kernel
set_option maxRecDepth 20000 in
theorem ggX2_allOf_X2_test : GoodIn wsX2_allOf wsX2_test := goodIn_r _ [38, 13, 14, 15, 10, 16, 17, 18, 19, 20, 21, 22, 39, 40, 6, 41, 42, 43, 44, 45, 46, 47, 48, 49, 12, 50, 23, 24, 25, 26, 3, 4, 5, 27, 28, 29, 30, 31, 2, 1, 32, 33, 51, 52, 53, 54, 55, 56, 7, 8, 9, 11, 57, 58, 59, 60, 61, 62, 63, 64, 65, 66, 67, 68, 69, 70, 71, 72, 73, 74, 75, 76, 77, 78, 79, 80, 81, 82, 83, 84, 85, 86, 87, 88, 0, 34, 35, 36, 37, 89, 90, 91, 92, 93, 94, 95, 96, 97, 98, 99, 100, 101, 102, 103, 104] (by decide +kernel) (by decide +kernel)
set_option maxRecDepth 20000 in
theorem gX2_allOf_X2_test : GoodIn wsX2_allOf (wsV RX2 93 RX2 yX2_test wsX2_test) := goodIn_app (goodIn_of _ (by decide +kernel)) ggX2_allOf_X2_test
set_option maxRecDepth 20000 in
theorem ggX2_allOf_X7_isFine : GoodIn wsX2_allOf wsX7_isFine := goodIn_r _ [11, 12, 99, 100, 101, 102, 103, 104] (by decide +kernel) (by decide +kernel)
set_option maxRecDepth 20000 in
theorem gX2_allOf_X7_isFine : GoodIn wsX2_allOf (wsV RX2 73 RX7 yX7_isFine wsX7_isFine) := goodIn_app (goodIn_of _ (by decide +kernel)) ggX2_allOf_X7_isFine
set_option maxRecDepth 20000 in
theorem ggX2_allOf_X7_look : GoodIn wsX2_allOf wsX7_look := goodIn_r _ [16, 17, 18, 19, 20, 21, 22, 99, 100, 101, 102, 103, 104] (by decide +kernel) (by decide +kernel)
set_option maxRecDepth 20000 in
theorem gX2_allOf_X7_look : GoodIn wsX2_allOf (wsV RX2 54 RX7 yX7_look wsX7_look) := goodIn_app (goodIn_of _ (by decide +kernel)) ggX2_allOf_X7_look
set_option maxRecDepth 20000 in
theorem ggX2_allOf_X7_step : GoodIn wsX2_allOf wsX7_step := goodIn_r _ [26, 17, 99, 100, 101, 102, 103, 104] (by decide +kernel) (by decide +kernel)
set_option maxRecDepth 20000 in
theorem gX2_allOf_X7_step : GoodIn wsX2_allOf (wsV RX2 62 RX7 yX7_step wsX7_step) := goodIn_app (goodIn_of _ (by decide +kernel)) ggX2_allOf_X7_step
set_option maxRecDepth 20000 in
theorem ggX2_allOf_X2_order : GoodIn wsX2_allOf wsX2_order := goodIn_r _ [30, 31, 2, 1, 32, 21, 33, 89, 90, 91, 92, 93, 94, 95, 96, 97, 98] (by decide +kernel) (by decide +kernel)
set_option maxRecDepth 20000 in
theorem gX2_allOf_X2_order : GoodIn wsX2_allOf (wsV RX2 89 RX2 yX2_order wsX2_order) := goodIn_app (goodIn_of _ (by decide +kernel)) ggX2_allOf_X2_order
set_option maxRecDepth 20000 in
theorem ggX2_allOf_X9_put : GoodIn wsX2_allOf wsX9_put := goodIn_r _ [33] (by decide +kernel) (by decide +kernel)
set_option maxRecDepth 20000 in
theorem gX2_allOf_X9_put_n65 : GoodIn wsX2_allOf (wsX9_put) := ggX2_allOf_X9_put
theorem dX2_allOf_0 : decode cX2_allOf 0 = .ok (.aload_n 0, 1) := by decide +kernel
theorem dX2_allOf_1 : decode cX2_allOf 1 = .ok (.aload_n 1, 1) := by decide +kernel
theorem dX2_allOf_2 : decode cX2_allOf 2 = .ok (.iload_n 2, 1) := by decide +kernel
theorem dX2_allOf_3 : decode cX2_allOf 3 = .ok (.invokevirtual 93, 3) := by decide +kernel
theorem dX2_allOf_6 : decode cX2_allOf 6 = .ok (.iconst 0, 1) := by decide +kernel
theorem dX2_allOf_7 : decode cX2_allOf 7 = .ok (.istore_n 3, 1) := by decide +kernel
theorem dX2_allOf_8 : decode cX2_allOf 8 = .ok (.iload_n 3, 1) := by decide +kernel
theorem dX2_allOf_9 : decode cX2_allOf 9 = .ok (.sipush 240, 3) := by decide +kernel
theorem dX2_allOf_12 : decode cX2_allOf 12 = .ok (.if_icmp .ge 56, 3) := by decide +kernel
theorem dX2_allOf_15 : decode cX2_allOf 15 = .ok (.aload_n 1, 1) := by decide +kernel
theorem dX2_allOf_16 : decode cX2_allOf 16 = .ok (.invokevirtual 73, 3) := by decide +kernel
theorem dX2_allOf_19 : decode cX2_allOf 19 = .ok (.ifCond .eq 49, 3) := by decide +kernel
theorem dX2_allOf_22 : decode cX2_allOf 22 = .ok (.aload_n 1, 1) := by decide +kernel
theorem dX2_allOf_23 : decode cX2_allOf 23 = .ok (.invokevirtual 54, 3) := by decide +kernel
theorem dX2_allOf_26 : decode cX2_allOf 26 = .ok (.bipush 38, 2) := by decide +kernel
theorem dX2_allOf_28 : decode cX2_allOf 28 = .ok (.if_icmp .ne 40, 3) := by decide +kernel
theorem dX2_allOf_31 : decode cX2_allOf 31 = .ok (.aload_n 1, 1) := by decide +kernel
theorem dX2_allOf_32 : decode cX2_allOf 32 = .ok (.invokevirtual 62, 3) := by decide +kernel
theorem dX2_allOf_35 : decode cX2_allOf 35 = .ok (.aload_n 0, 1) := by decide +kernel
theorem dX2_allOf_36 : decode cX2_allOf 36 = .ok (.iconst 4, 1) := by decide +kernel
theorem dX2_allOf_37 : decode cX2_allOf 37 = .ok (.iconst 0, 1) := by decide +kernel
theorem dX2_allOf_38 : decode cX2_allOf 38 = .ok (.invokevirtual 89, 3) := by decide +kernel
theorem dX2_allOf_41 : decode cX2_allOf 41 = .ok (.istore 4, 2) := by decide +kernel
theorem dX2_allOf_43 : decode cX2_allOf 43 = .ok (.aload_n 0, 1) := by decide +kernel
theorem dX2_allOf_44 : decode cX2_allOf 44 = .ok (.aload_n 1, 1) := by decide +kernel
theorem dX2_allOf_45 : decode cX2_allOf 45 = .ok (.iload_n 2, 1) := by decide +kernel
theorem dX2_allOf_46 : decode cX2_allOf 46 = .ok (.invokevirtual 93, 3) := by decide +kernel
theorem dX2_allOf_49 : decode cX2_allOf 49 = .ok (.aload_n 0, 1) := by decide +kernel
theorem dX2_allOf_50 : decode cX2_allOf 50 = .ok (.getfield 15, 3) := by decide +kernel
theorem dX2_allOf_53 : decode cX2_allOf 53 = .ok (.iload 4, 2) := by decide +kernel
theorem dX2_allOf_55 : decode cX2_allOf 55 = .ok (.aload_n 0, 1) := by decide +kernel
theorem dX2_allOf_56 : decode cX2_allOf 56 = .ok (.getfield 33, 3) := by decide +kernel
theorem dX2_allOf_59 : decode cX2_allOf 59 = .ok (.invokestatic 65, 3) := by decide +kernel
theorem dX2_allOf_62 : decode cX2_allOf 62 = .ok (.iinc 3 1, 3) := by decide +kernel
theorem dX2_allOf_65 : decode cX2_allOf 65 = .ok (.goto (-57), 3) := by decide +kernel
theorem dX2_allOf_68 : decode cX2_allOf 68 = .ok (.return_, 1) := by decide +kernel
set_option maxRecDepth 20000 in
theorem ggX2_test_X7_look : GoodIn wsX2_test wsX7_look := goodIn_r _ [5, 6, 7, 8, 9, 10, 11, 99, 100, 101, 102, 103, 104] (by decide +kernel) (by decide +kernel)
set_option maxRecDepth 20000 in
theorem gX2_test_X7_look : GoodIn wsX2_test (wsV RX2 54 RX7 yX7_look wsX7_look) := goodIn_app (goodIn_of _ (by decide +kernel)) ggX2_test_X7_look
set_option maxRecDepth 20000 in
theorem ggX2_test_X2_opens : GoodIn wsX2_test wsX2_opens := goodIn_r _ [15, 16, 17, 18, 4, 19, 6, 20, 21, 22, 23, 24, 25, 26, 27, 28, 29, 99, 100, 101, 102, 103, 104] (by decide +kernel) (by decide +kernel)
set_option maxRecDepth 20000 in
theorem gX2_test_X2_opens : GoodIn wsX2_test (va_wsS RX2 96 yX2_opens wsX2_opens) := goodIn_app (goodIn_of _ (by decide +kernel)) ggX2_test_X2_opens
set_option maxRecDepth 20000 in
theorem ggX2_test_X2_test : GoodIn wsX2_test wsX2_test := goodIn_r _ [0, 1, 2, 3, 4, 5, 6, 7, 8, 9, 10, 11, 12, 13, 14, 15, 16, 17, 18, 19, 20, 21, 22, 23, 24, 25, 26, 27, 28, 29, 30, 31, 32, 33, 34, 35, 36, 37, 38, 39, 40, 41, 42, 43, 44, 45, 46, 47, 48, 49, 50, 51, 52, 53, 54, 55, 56, 57, 58, 59, 60, 61, 62, 63, 64, 65, 66, 67, 68, 69, 70, 71, 72, 73, 74, 75, 76, 77, 78, 79, 80, 81, 82, 83, 84, 85, 86, 87, 88, 89, 90, 91, 92, 93, 94, 95, 96, 97, 98, 99, 100, 101, 102, 103, 104] (by decide +kernel) (by decide +kernel)
set_option maxRecDepth 20000 in
theorem gX2_test_X2_test : GoodIn wsX2_test (wsV RX2 93 RX2 yX2_test wsX2_test) := goodIn_app (goodIn_of _ (by decide +kernel)) ggX2_test_X2_test
set_option maxRecDepth 20000 in
theorem ggX2_test_X2_order : GoodIn wsX2_test wsX2_order := goodIn_r _ [36, 37, 38, 39, 40, 10, 41, 89, 90, 91, 92, 93, 94, 95, 96, 97, 98] (by decide +kernel) (by decide +kernel)
set_option maxRecDepth 20000 in
theorem gX2_test_X2_order : GoodIn wsX2_test (wsV RX2 89 RX2 yX2_order wsX2_order) := goodIn_app (goodIn_of _ (by decide +kernel)) ggX2_test_X2_order
set_option maxRecDepth 20000 in
theorem ggX2_test_X2_anyOf : GoodIn wsX2_test wsX2_anyOf := goodIn_r _ [85, 39, 38, 86, 87, 88, 14, 48, 49, 50, 4, 51, 24, 1, 2, 3, 5, 6, 7, 8, 9, 10, 11, 26, 27, 28, 29, 33, 34, 35, 36, 37, 40, 41, 84, 30, 31, 32, 0, 12, 13, 15, 16, 17, 18, 19, 20, 21, 22, 23, 25, 42, 43, 44, 45, 46, 47, 52, 53, 54, 55, 56, 57, 58, 59, 60, 61, 62, 63, 64, 65, 66, 67, 68, 69, 70, 71, 72, 73, 74, 75, 76, 77, 78, 79, 80, 81, 82, 83, 89, 90, 91, 92, 93, 94, 95, 96, 97, 98, 99, 100, 101, 102, 103, 104] (by decide +kernel) (by decide +kernel)
set_option maxRecDepth 20000 in
theorem gX2_test_X2_anyOf : GoodIn wsX2_test (wsV RX2 80 RX2 yX2_anyOf wsX2_anyOf) := goodIn_app (goodIn_of _ (by decide +kernel)) ggX2_test_X2_anyOf
set_option maxRecDepth 20000 in
theorem ggX2_test_X2_close : GoodIn wsX2_test wsX2_close := goodIn_r _ [47, 48, 49, 50, 4, 51, 24, 52, 53, 54, 55, 56, 2, 3, 5, 6, 7, 8, 9, 10, 11, 57, 17, 18, 19, 20, 21, 22, 23, 25, 58, 27, 28, 29, 99, 100, 101, 102, 103, 104] (by decide +kernel) (by decide +kernel)
set_option maxRecDepth 20000 in
theorem gX2_test_X2_close : GoodIn wsX2_test (va_wsS RX2 83 yX2_close wsX2_close) := goodIn_app (goodIn_of _ (by decide +kernel)) ggX2_test_X2_close
set_option maxRecDepth 20000 in
theorem ggX2_test_X2_sum : GoodIn wsX2_test wsX2_sum := goodIn_r _ [62, 63, 64, 65, 14, 48, 49, 50, 4, 51, 24, 1, 2, 3, 5, 6, 7, 8, 9, 10, 11, 26, 27, 28, 29, 33, 34, 35, 36, 37, 38, 39, 40, 41, 66, 12, 13, 15, 16, 17, 18, 19, 20, 21, 22, 23, 25, 59, 60, 61, 45, 46, 47, 52, 53, 54, 55, 56, 57, 58, 67, 68, 69, 70, 71, 72, 73, 74, 75, 76, 77, 78, 79, 80, 81, 82, 83, 99, 100, 101, 102, 103, 104, 89, 90, 91, 92, 93, 94, 95, 96, 97, 98] (by decide +kernel) (by decide +kernel)
set_option maxRecDepth 20000 in
theorem gX2_test_X2_sum : GoodIn wsX2_test (wsV RX2 69 RX2 yX2_sum wsX2_sum) := goodIn_app (goodIn_of _ (by decide +kernel)) ggX2_test_X2_sum
set_option maxRecDepth 20000 in
theorem ggX2_test_X7_step : GoodIn wsX2_test wsX7_step := goodIn_r _ [29, 6, 99, 100, 101, 102, 103, 104] (by decide +kernel) (by decide +kernel)
set_option maxRecDepth 20000 in
theorem gX2_test_X7_step : GoodIn wsX2_test (wsV RX2 62 RX7 yX7_step wsX7_step) := goodIn_app (goodIn_of _ (by decide +kernel)) ggX2_test_X7_step
set_option maxRecDepth 20000 in
theorem ggX2_test_X7_fail : GoodIn wsX2_test wsX7_fail := goodIn_r _ [19, 6, 20, 21, 22, 4, 23, 24, 25, 99, 100, 101, 102, 103, 104] (by decide +kernel) (by decide +kernel)
set_option maxRecDepth 20000 in
theorem gX2_test_X7_fail : GoodIn wsX2_test (wsV RX2 58 RX7 yX7_fail wsX7_fail) := goodIn_app (goodIn_of _ (by decide +kernel)) ggX2_test_X7_fail
theorem dX2_test_0 : decode cX2_test 0 = .ok (.aload_n 1, 1) := by decide +kernel
theorem dX2_test_1 : decode cX2_test 1 = .ok (.invokevirtual 54, 3) := by decide +kernel
theorem dX2_test_4 : decode cX2_test 4 = .ok (.istore_n 3, 1) := by decide +kernel
theorem dX2_test_5 : decode cX2_test 5 = .ok (.iload_n 3, 1) := by decide +kernel
theorem dX2_test_6 : decode cX2_test 6 = .ok (.bipush 33, 2) := by decide +kernel
theorem dX2_test_8 : decode cX2_test 8 = .ok (.if_icmp .ne 29, 3) := by decide +kernel
theorem dX2_test_11 : decode cX2_test 11 = .ok (.aload_n 1, 1) := by decide +kernel
theorem dX2_test_12 : decode cX2_test 12 = .ok (.iload_n 2, 1) := by decide +kernel
theorem dX2_test_13 : decode cX2_test 13 = .ok (.invokestatic 96, 3) := by decide +kernel
theorem dX2_test_16 : decode cX2_test 16 = .ok (.ifCond .eq 111, 3) := by decide +kernel
theorem dX2_test_19 : decode cX2_test 19 = .ok (.aload_n 0, 1) := by decide +kernel
theorem dX2_test_20 : decode cX2_test 20 = .ok (.aload_n 1, 1) := by decide +kernel
theorem dX2_test_21 : decode cX2_test 21 = .ok (.iload_n 2, 1) := by decide +kernel
theorem dX2_test_22 : decode cX2_test 22 = .ok (.iconst 1, 1) := by decide +kernel
theorem dX2_test_23 : decode cX2_test 23 = .ok (.iadd, 1) := by decide +kernel
theorem dX2_test_24 : decode cX2_test 24 = .ok (.invokevirtual 93, 3) := by decide +kernel
theorem dX2_test_27 : decode cX2_test 27 = .ok (.aload_n 0, 1) := by decide +kernel
theorem dX2_test_28 : decode cX2_test 28 = .ok (.iconst 3, 1) := by decide +kernel
theorem dX2_test_29 : decode cX2_test 29 = .ok (.iconst 0, 1) := by decide +kernel
theorem dX2_test_30 : decode cX2_test 30 = .ok (.invokevirtual 89, 3) := by decide +kernel
theorem dX2_test_33 : decode cX2_test 33 = .ok (.pop, 1) := by decide +kernel
theorem dX2_test_34 : decode cX2_test 34 = .ok (.goto 93, 3) := by decide +kernel
theorem dX2_test_37 : decode cX2_test 37 = .ok (.iload_n 3, 1) := by decide +kernel
theorem dX2_test_38 : decode cX2_test 38 = .ok (.bipush 40, 2) := by decide +kernel
theorem dX2_test_40 : decode cX2_test 40 = .ok (.if_icmp .ne 28, 3) := by decide +kernel
theorem dX2_test_43 : decode cX2_test 43 = .ok (.aload_n 1, 1) := by decide +kernel
theorem dX2_test_44 : decode cX2_test 44 = .ok (.iload_n 2, 1) := by decide +kernel
theorem dX2_test_45 : decode cX2_test 45 = .ok (.invokestatic 96, 3) := by decide +kernel
theorem dX2_test_48 : decode cX2_test 48 = .ok (.ifCond .eq 79, 3) := by decide +kernel
theorem dX2_test_51 : decode cX2_test 51 = .ok (.aload_n 0, 1) := by decide +kernel
theorem dX2_test_52 : decode cX2_test 52 = .ok (.aload_n 1, 1) := by decide +kernel
theorem dX2_test_53 : decode cX2_test 53 = .ok (.iload_n 2, 1) := by decide +kernel
theorem dX2_test_54 : decode cX2_test 54 = .ok (.iconst 1, 1) := by decide +kernel
theorem dX2_test_55 : decode cX2_test 55 = .ok (.iadd, 1) := by decide +kernel
theorem dX2_test_56 : decode cX2_test 56 = .ok (.invokevirtual 80, 3) := by decide +kernel
theorem dX2_test_59 : decode cX2_test 59 = .ok (.aload_n 1, 1) := by decide +kernel
theorem dX2_test_60 : decode cX2_test 60 = .ok (.bipush 41, 2) := by decide +kernel
theorem dX2_test_62 : decode cX2_test 62 = .ok (.invokestatic 83, 3) := by decide +kernel
theorem dX2_test_65 : decode cX2_test 65 = .ok (.goto 62, 3) := by decide +kernel
theorem dX2_test_68 : decode cX2_test 68 = .ok (.aload_n 0, 1) := by decide +kernel
theorem dX2_test_69 : decode cX2_test 69 = .ok (.aload_n 1, 1) := by decide +kernel
theorem dX2_test_70 : decode cX2_test 70 = .ok (.iload_n 2, 1) := by decide +kernel
theorem dX2_test_71 : decode cX2_test 71 = .ok (.invokevirtual 69, 3) := by decide +kernel
theorem dX2_test_74 : decode cX2_test 74 = .ok (.aload_n 1, 1) := by decide +kernel
theorem dX2_test_75 : decode cX2_test 75 = .ok (.invokevirtual 54, 3) := by decide +kernel
theorem dX2_test_78 : decode cX2_test 78 = .ok (.istore 4, 2) := by decide +kernel
theorem dX2_test_80 : decode cX2_test 80 = .ok (.iload 4, 2) := by decide +kernel
theorem dX2_test_82 : decode cX2_test 82 = .ok (.bipush 60, 2) := by decide +kernel
theorem dX2_test_84 : decode cX2_test 84 = .ok (.if_icmp .eq 17, 3) := by decide +kernel
theorem dX2_test_87 : decode cX2_test 87 = .ok (.iload 4, 2) := by decide +kernel
theorem dX2_test_89 : decode cX2_test 89 = .ok (.bipush 62, 2) := by decide +kernel
theorem dX2_test_91 : decode cX2_test 91 = .ok (.if_icmp .eq 10, 3) := by decide +kernel
theorem dX2_test_94 : decode cX2_test 94 = .ok (.iload 4, 2) := by decide +kernel
theorem dX2_test_96 : decode cX2_test 96 = .ok (.bipush 61, 2) := by decide +kernel
theorem dX2_test_98 : decode cX2_test 98 = .ok (.if_icmp .ne 24, 3) := by decide +kernel
theorem dX2_test_101 : decode cX2_test 101 = .ok (.aload_n 1, 1) := by decide +kernel
theorem dX2_test_102 : decode cX2_test 102 = .ok (.invokevirtual 62, 3) := by decide +kernel
theorem dX2_test_105 : decode cX2_test 105 = .ok (.aload_n 0, 1) := by decide +kernel
theorem dX2_test_106 : decode cX2_test 106 = .ok (.aload_n 1, 1) := by decide +kernel
theorem dX2_test_107 : decode cX2_test 107 = .ok (.iload_n 2, 1) := by decide +kernel
theorem dX2_test_108 : decode cX2_test 108 = .ok (.invokevirtual 69, 3) := by decide +kernel
theorem dX2_test_111 : decode cX2_test 111 = .ok (.aload_n 0, 1) := by decide +kernel
theorem dX2_test_112 : decode cX2_test 112 = .ok (.iload 4, 2) := by decide +kernel
theorem dX2_test_114 : decode cX2_test 114 = .ok (.iconst 0, 1) := by decide +kernel
theorem dX2_test_115 : decode cX2_test 115 = .ok (.invokevirtual 89, 3) := by decide +kernel
theorem dX2_test_118 : decode cX2_test 118 = .ok (.pop, 1) := by decide +kernel
theorem dX2_test_119 : decode cX2_test 119 = .ok (.goto 8, 3) := by decide +kernel
theorem dX2_test_122 : decode cX2_test 122 = .ok (.aload_n 1, 1) := by decide +kernel
theorem dX2_test_123 : decode cX2_test 123 = .ok (.iconst 1, 1) := by decide +kernel
theorem dX2_test_124 : decode cX2_test 124 = .ok (.invokevirtual 58, 3) := by decide +kernel
theorem dX2_test_127 : decode cX2_test 127 = .ok (.return_, 1) := by decide +kernel
set_option maxRecDepth 20000 in
theorem ggX2_sum_X2_term : GoodIn wsX2_sum wsX2_term := goodIn_r _ [73, 74, 75, 76, 4, 5, 6, 7, 8, 9, 10, 11, 12, 13, 14, 15, 16, 17, 18, 19, 20, 21, 22, 23, 24, 25, 26, 27, 28, 29, 30, 31, 32, 33, 34, 35, 36, 37, 38, 39, 40, 41, 42, 43, 44, 45, 46, 47, 48, 49, 50, 51, 52, 53, 54, 55, 56, 57, 58, 59, 60, 61, 62, 63, 64, 65, 66, 67, 68, 69, 70, 71, 72, 0, 1, 2, 3, 77, 78, 79, 80, 81, 82, 83, 84, 85, 86, 87, 88, 89, 90, 91, 92] (by decide +kernel) (by decide +kernel)
set_option maxRecDepth 20000 in
theorem gX2_sum_X2_term : GoodIn wsX2_sum (wsV RX2 100 RX2 yX2_term wsX2_term) := goodIn_app (goodIn_of _ (by decide +kernel)) ggX2_sum_X2_term
set_option maxRecDepth 20000 in
theorem ggX2_sum_X7_isFine : GoodIn wsX2_sum wsX7_isFine := goodIn_r _ [9, 10, 77, 78, 79, 80, 81, 82] (by decide +kernel) (by decide +kernel)
set_option maxRecDepth 20000 in
theorem gX2_sum_X7_isFine : GoodIn wsX2_sum (wsV RX2 73 RX7 yX7_isFine wsX7_isFine) := goodIn_app (goodIn_of _ (by decide +kernel)) ggX2_sum_X7_isFine
set_option maxRecDepth 20000 in
theorem ggX2_sum_X7_look : GoodIn wsX2_sum wsX7_look := goodIn_r _ [14, 15, 16, 17, 18, 19, 20, 77, 78, 79, 80, 81, 82] (by decide +kernel) (by decide +kernel)
set_option maxRecDepth 20000 in
theorem gX2_sum_X7_look : GoodIn wsX2_sum (wsV RX2 54 RX7 yX7_look wsX7_look) := goodIn_app (goodIn_of _ (by decide +kernel)) ggX2_sum_X7_look
set_option maxRecDepth 20000 in
theorem ggX2_sum_X7_step : GoodIn wsX2_sum wsX7_step := goodIn_r _ [24, 15, 77, 78, 79, 80, 81, 82] (by decide +kernel) (by decide +kernel)
set_option maxRecDepth 20000 in
theorem gX2_sum_X7_step : GoodIn wsX2_sum (wsV RX2 62 RX7 yX7_step wsX7_step) := goodIn_app (goodIn_of _ (by decide +kernel)) ggX2_sum_X7_step
set_option maxRecDepth 20000 in
theorem ggX2_sum_X2_order : GoodIn wsX2_sum wsX2_order := goodIn_r _ [28, 29, 30, 31, 32, 19, 33, 83, 84, 85, 86, 87, 88, 89, 90, 91, 92] (by decide +kernel) (by decide +kernel)
set_option maxRecDepth 20000 in
theorem gX2_sum_X2_order : GoodIn wsX2_sum (wsV RX2 89 RX2 yX2_order wsX2_order) := goodIn_app (goodIn_of _ (by decide +kernel)) ggX2_sum_X2_order
theorem dX2_sum_0 : decode cX2_sum 0 = .ok (.aload_n 0, 1) := by decide +kernel
theorem dX2_sum_1 : decode cX2_sum 1 = .ok (.aload_n 1, 1) := by decide +kernel
theorem dX2_sum_2 : decode cX2_sum 2 = .ok (.iload_n 2, 1) := by decide +kernel
theorem dX2_sum_3 : decode cX2_sum 3 = .ok (.invokevirtual 100, 3) := by decide +kernel
theorem dX2_sum_6 : decode cX2_sum 6 = .ok (.iconst 0, 1) := by decide +kernel
theorem dX2_sum_7 : decode cX2_sum 7 = .ok (.istore_n 3, 1) := by decide +kernel
theorem dX2_sum_8 : decode cX2_sum 8 = .ok (.iload_n 3, 1) := by decide +kernel
theorem dX2_sum_9 : decode cX2_sum 9 = .ok (.sipush 240, 3) := by decide +kernel
theorem dX2_sum_12 : decode cX2_sum 12 = .ok (.if_icmp .ge 55, 3) := by decide +kernel
theorem dX2_sum_15 : decode cX2_sum 15 = .ok (.aload_n 1, 1) := by decide +kernel
theorem dX2_sum_16 : decode cX2_sum 16 = .ok (.invokevirtual 73, 3) := by decide +kernel
theorem dX2_sum_19 : decode cX2_sum 19 = .ok (.ifCond .eq 48, 3) := by decide +kernel
theorem dX2_sum_22 : decode cX2_sum 22 = .ok (.aload_n 1, 1) := by decide +kernel
theorem dX2_sum_23 : decode cX2_sum 23 = .ok (.invokevirtual 54, 3) := by decide +kernel
theorem dX2_sum_26 : decode cX2_sum 26 = .ok (.istore 4, 2) := by decide +kernel
theorem dX2_sum_28 : decode cX2_sum 28 = .ok (.iload 4, 2) := by decide +kernel
theorem dX2_sum_30 : decode cX2_sum 30 = .ok (.bipush 43, 2) := by decide +kernel
theorem dX2_sum_32 : decode cX2_sum 32 = .ok (.if_icmp .eq 11, 3) := by decide +kernel
theorem dX2_sum_35 : decode cX2_sum 35 = .ok (.iload 4, 2) := by decide +kernel
theorem dX2_sum_37 : decode cX2_sum 37 = .ok (.bipush 45, 2) := by decide +kernel
theorem dX2_sum_39 : decode cX2_sum 39 = .ok (.if_icmp .eq 4, 3) := by decide +kernel
theorem dX2_sum_42 : decode cX2_sum 42 = .ok (.return_, 1) := by decide +kernel
theorem dX2_sum_43 : decode cX2_sum 43 = .ok (.aload_n 1, 1) := by decide +kernel
theorem dX2_sum_44 : decode cX2_sum 44 = .ok (.invokevirtual 62, 3) := by decide +kernel
theorem dX2_sum_47 : decode cX2_sum 47 = .ok (.aload_n 0, 1) := by decide +kernel
theorem dX2_sum_48 : decode cX2_sum 48 = .ok (.aload_n 1, 1) := by decide +kernel
theorem dX2_sum_49 : decode cX2_sum 49 = .ok (.iload_n 2, 1) := by decide +kernel
theorem dX2_sum_50 : decode cX2_sum 50 = .ok (.invokevirtual 100, 3) := by decide +kernel
theorem dX2_sum_53 : decode cX2_sum 53 = .ok (.aload_n 0, 1) := by decide +kernel
theorem dX2_sum_54 : decode cX2_sum 54 = .ok (.iload 4, 2) := by decide +kernel
theorem dX2_sum_56 : decode cX2_sum 56 = .ok (.iconst 0, 1) := by decide +kernel
theorem dX2_sum_57 : decode cX2_sum 57 = .ok (.invokevirtual 89, 3) := by decide +kernel
theorem dX2_sum_60 : decode cX2_sum 60 = .ok (.pop, 1) := by decide +kernel
theorem dX2_sum_61 : decode cX2_sum 61 = .ok (.iinc 3 1, 3) := by decide +kernel
theorem dX2_sum_64 : decode cX2_sum 64 = .ok (.goto (-56), 3) := by decide +kernel
theorem dX2_sum_67 : decode cX2_sum 67 = .ok (.return_, 1) := by decide +kernel
set_option maxRecDepth 20000 in
theorem ggX2_term_X2_factor : GoodIn wsX2_term wsX2_factor := goodIn_r _ [34, 11, 12, 13, 8, 14, 15, 16, 17, 18, 19, 20, 35, 36, 4, 37, 38, 39, 40, 41, 42, 43, 44, 45, 10, 46, 21, 22, 23, 24, 47, 48, 49, 50, 51, 52, 5, 6, 7, 9, 53, 54, 55, 56, 57, 58, 59, 60, 61, 62, 63, 64, 65, 66, 67, 68, 69, 25, 26, 27, 28, 29, 30, 31, 32, 33, 70, 71, 72, 73, 74, 75, 76, 0, 1, 2, 3, 77, 78, 79, 80, 81, 82, 83, 84, 85, 86, 87, 88, 89, 90, 91, 92] (by decide +kernel) (by decide +kernel)
set_option maxRecDepth 20000 in
theorem gX2_term_X2_factor : GoodIn wsX2_term (wsV RX2 103 RX2 yX2_factor wsX2_factor) := goodIn_app (goodIn_of _ (by decide +kernel)) ggX2_term_X2_factor
set_option maxRecDepth 20000 in
theorem ggX2_term_X7_isFine : GoodIn wsX2_term wsX7_isFine := goodIn_r _ [9, 10, 77, 78, 79, 80, 81, 82] (by decide +kernel) (by decide +kernel)
set_option maxRecDepth 20000 in
theorem gX2_term_X7_isFine : GoodIn wsX2_term (wsV RX2 73 RX7 yX7_isFine wsX7_isFine) := goodIn_app (goodIn_of _ (by decide +kernel)) ggX2_term_X7_isFine
set_option maxRecDepth 20000 in
theorem ggX2_term_X7_look : GoodIn wsX2_term wsX7_look := goodIn_r _ [14, 15, 16, 17, 18, 19, 20, 77, 78, 79, 80, 81, 82] (by decide +kernel) (by decide +kernel)
set_option maxRecDepth 20000 in
theorem gX2_term_X7_look : GoodIn wsX2_term (wsV RX2 54 RX7 yX7_look wsX7_look) := goodIn_app (goodIn_of _ (by decide +kernel)) ggX2_term_X7_look
set_option maxRecDepth 20000 in
theorem ggX2_term_X7_step : GoodIn wsX2_term wsX7_step := goodIn_r _ [24, 15, 77, 78, 79, 80, 81, 82] (by decide +kernel) (by decide +kernel)
set_option maxRecDepth 20000 in
theorem gX2_term_X7_step : GoodIn wsX2_term (wsV RX2 62 RX7 yX7_step wsX7_step) := goodIn_app (goodIn_of _ (by decide +kernel)) ggX2_term_X7_step
set_option maxRecDepth 20000 in
theorem ggX2_term_X2_order : GoodIn wsX2_term wsX2_order := goodIn_r _ [28, 29, 30, 31, 32, 19, 33, 83, 84, 85, 86, 87, 88, 89, 90, 91, 92] (by decide +kernel) (by decide +kernel)
set_option maxRecDepth 20000 in
theorem gX2_term_X2_order : GoodIn wsX2_term (wsV RX2 89 RX2 yX2_order wsX2_order) := goodIn_app (goodIn_of _ (by decide +kernel)) ggX2_term_X2_order
theorem dX2_term_0 : decode cX2_term 0 = .ok (.aload_n 0, 1) := by decide +kernel
theorem dX2_term_1 : decode cX2_term 1 = .ok (.aload_n 1, 1) := by decide +kernel
theorem dX2_term_2 : decode cX2_term 2 = .ok (.iload_n 2, 1) := by decide +kernel
theorem dX2_term_3 : decode cX2_term 3 = .ok (.invokevirtual 103, 3) := by decide +kernel
theorem dX2_term_6 : decode cX2_term 6 = .ok (.iconst 0, 1) := by decide +kernel
theorem dX2_term_7 : decode cX2_term 7 = .ok (.istore_n 3, 1) := by decide +kernel
theorem dX2_term_8 : decode cX2_term 8 = .ok (.iload_n 3, 1) := by decide +kernel
theorem dX2_term_9 : decode cX2_term 9 = .ok (.sipush 240, 3) := by decide +kernel
theorem dX2_term_12 : decode cX2_term 12 = .ok (.if_icmp .ge 62, 3) := by decide +kernel
theorem dX2_term_15 : decode cX2_term 15 = .ok (.aload_n 1, 1) := by decide +kernel
theorem dX2_term_16 : decode cX2_term 16 = .ok (.invokevirtual 73, 3) := by decide +kernel
theorem dX2_term_19 : decode cX2_term 19 = .ok (.ifCond .eq 55, 3) := by decide +kernel
theorem dX2_term_22 : decode cX2_term 22 = .ok (.aload_n 1, 1) := by decide +kernel
theorem dX2_term_23 : decode cX2_term 23 = .ok (.invokevirtual 54, 3) := by decide +kernel
theorem dX2_term_26 : decode cX2_term 26 = .ok (.istore 4, 2) := by decide +kernel
theorem dX2_term_28 : decode cX2_term 28 = .ok (.iload 4, 2) := by decide +kernel
theorem dX2_term_30 : decode cX2_term 30 = .ok (.bipush 42, 2) := by decide +kernel
theorem dX2_term_32 : decode cX2_term 32 = .ok (.if_icmp .eq 18, 3) := by decide +kernel
theorem dX2_term_35 : decode cX2_term 35 = .ok (.iload 4, 2) := by decide +kernel
theorem dX2_term_37 : decode cX2_term 37 = .ok (.bipush 47, 2) := by decide +kernel
theorem dX2_term_39 : decode cX2_term 39 = .ok (.if_icmp .eq 11, 3) := by decide +kernel
theorem dX2_term_42 : decode cX2_term 42 = .ok (.iload 4, 2) := by decide +kernel
theorem dX2_term_44 : decode cX2_term 44 = .ok (.bipush 37, 2) := by decide +kernel
theorem dX2_term_46 : decode cX2_term 46 = .ok (.if_icmp .eq 4, 3) := by decide +kernel
theorem dX2_term_49 : decode cX2_term 49 = .ok (.return_, 1) := by decide +kernel
theorem dX2_term_50 : decode cX2_term 50 = .ok (.aload_n 1, 1) := by decide +kernel
theorem dX2_term_51 : decode cX2_term 51 = .ok (.invokevirtual 62, 3) := by decide +kernel
theorem dX2_term_54 : decode cX2_term 54 = .ok (.aload_n 0, 1) := by decide +kernel
theorem dX2_term_55 : decode cX2_term 55 = .ok (.aload_n 1, 1) := by decide +kernel
theorem dX2_term_56 : decode cX2_term 56 = .ok (.iload_n 2, 1) := by decide +kernel
theorem dX2_term_57 : decode cX2_term 57 = .ok (.invokevirtual 103, 3) := by decide +kernel
theorem dX2_term_60 : decode cX2_term 60 = .ok (.aload_n 0, 1) := by decide +kernel
theorem dX2_term_61 : decode cX2_term 61 = .ok (.iload 4, 2) := by decide +kernel
theorem dX2_term_63 : decode cX2_term 63 = .ok (.iconst 0, 1) := by decide +kernel
theorem dX2_term_64 : decode cX2_term 64 = .ok (.invokevirtual 89, 3) := by decide +kernel
theorem dX2_term_67 : decode cX2_term 67 = .ok (.pop, 1) := by decide +kernel
theorem dX2_term_68 : decode cX2_term 68 = .ok (.iinc 3 1, 3) := by decide +kernel
theorem dX2_term_71 : decode cX2_term 71 = .ok (.goto (-63), 3) := by decide +kernel
theorem dX2_term_74 : decode cX2_term 74 = .ok (.return_, 1) := by decide +kernel
set_option maxRecDepth 20000 in
theorem ggX2_factor_X7_look : GoodIn wsX2_factor wsX7_look := goodIn_r _ [5, 6, 7, 8, 9, 10, 11, 77, 78, 79, 80, 81, 82] (by decide +kernel) (by decide +kernel)
set_option maxRecDepth 20000 in
theorem gX2_factor_X7_look : GoodIn wsX2_factor (wsV RX2 54 RX7 yX7_look wsX7_look) := goodIn_app (goodIn_of _ (by decide +kernel)) ggX2_factor_X7_look
set_option maxRecDepth 20000 in
theorem ggX2_factor_X2_opens : GoodIn wsX2_factor wsX2_opens := goodIn_r _ [15, 16, 17, 18, 4, 19, 6, 20, 21, 22, 23, 24, 25, 26, 27, 28, 29, 77, 78, 79, 80, 81, 82] (by decide +kernel) (by decide +kernel)
set_option maxRecDepth 20000 in
theorem gX2_factor_X2_opens : GoodIn wsX2_factor (va_wsS RX2 96 yX2_opens wsX2_opens) := goodIn_app (goodIn_of _ (by decide +kernel)) ggX2_factor_X2_opens
set_option maxRecDepth 20000 in
theorem ggX2_factor_X2_sum : GoodIn wsX2_factor wsX2_sum := goodIn_r _ [69, 70, 71, 72, 14, 36, 37, 38, 4, 39, 24, 1, 2, 3, 5, 6, 7, 8, 9, 10, 11, 26, 27, 28, 29, 57, 58, 59, 60, 61, 62, 63, 64, 65, 0, 12, 13, 15, 16, 17, 18, 19, 20, 21, 22, 23, 25, 30, 31, 32, 33, 34, 35, 40, 41, 42, 43, 44, 45, 46, 47, 48, 49, 50, 51, 52, 53, 54, 55, 56, 66, 67, 68, 73, 74, 75, 76, 77, 78, 79, 80, 81, 82, 83, 84, 85, 86, 87, 88, 89, 90, 91, 92] (by decide +kernel) (by decide +kernel)
set_option maxRecDepth 20000 in
theorem gX2_factor_X2_sum : GoodIn wsX2_factor (wsV RX2 69 RX2 yX2_sum wsX2_sum) := goodIn_app (goodIn_of _ (by decide +kernel)) ggX2_factor_X2_sum
set_option maxRecDepth 20000 in
theorem ggX2_factor_X2_close : GoodIn wsX2_factor wsX2_close := goodIn_r _ [35, 36, 37, 38, 4, 39, 24, 40, 41, 42, 43, 44, 2, 3, 5, 6, 7, 8, 9, 10, 11, 45, 17, 18, 19, 20, 21, 22, 23, 25, 46, 27, 28, 29, 77, 78, 79, 80, 81, 82] (by decide +kernel) (by decide +kernel)
set_option maxRecDepth 20000 in
theorem gX2_factor_X2_close : GoodIn wsX2_factor (va_wsS RX2 83 yX2_close wsX2_close) := goodIn_app (goodIn_of _ (by decide +kernel)) ggX2_factor_X2_close
set_option maxRecDepth 20000 in
theorem ggX2_factor_X7_isDigit : GoodIn wsX2_factor wsX7_isDigit := goodIn_r _ [49, 50, 10, 51] (by decide +kernel) (by decide +kernel)
set_option maxRecDepth 20000 in
theorem gX2_factor_X7_isDigit : GoodIn wsX2_factor (va_wsS RX2 106 yX7_isDigit wsX7_isDigit) := goodIn_app (goodIn_of _ (by decide +kernel)) ggX2_factor_X7_isDigit
set_option maxRecDepth 20000 in
theorem ggX2_factor_X7_number : GoodIn wsX2_factor wsX7_number := goodIn_r _ [55, 44, 2, 3, 4, 5, 6, 7, 8, 9, 10, 11, 56, 48, 49, 50, 51, 45, 17, 18, 19, 20, 21, 22, 23, 24, 25, 46, 27, 28, 29, 77, 78, 79, 80, 81, 82] (by decide +kernel) (by decide +kernel)
set_option maxRecDepth 20000 in
theorem gX2_factor_X7_number : GoodIn wsX2_factor (wsV RX2 109 RX7 yX7_number wsX7_number) := goodIn_app (goodIn_of _ (by decide +kernel)) ggX2_factor_X7_number
set_option maxRecDepth 20000 in
theorem ggX2_factor_X2_order : GoodIn wsX2_factor wsX2_order := goodIn_r _ [60, 61, 62, 63, 64, 10, 65, 83, 84, 85, 86, 87, 88, 89, 90, 91, 92] (by decide +kernel) (by decide +kernel)
set_option maxRecDepth 20000 in
theorem gX2_factor_X2_order : GoodIn wsX2_factor (wsV RX2 89 RX2 yX2_order wsX2_order) := goodIn_app (goodIn_of _ (by decide +kernel)) ggX2_factor_X2_order
set_option maxRecDepth 20000 in
theorem ggX2_factor_X2_letterOf : GoodIn wsX2_factor wsX2_letterOf := goodIn_r _ [68] (by decide +kernel) (by decide +kernel)
set_option maxRecDepth 20000 in
theorem gX2_factor_X2_letterOf : GoodIn wsX2_factor (va_wsS RX2 113 yX2_letterOf wsX2_letterOf) := goodIn_app (goodIn_of _ (by decide +kernel)) ggX2_factor_X2_letterOf
set_option maxRecDepth 20000 in
theorem ggX2_factor_X7_step : GoodIn wsX2_factor wsX7_step := goodIn_r _ [29, 6, 77, 78, 79, 80, 81, 82] (by decide +kernel) (by decide +kernel)
set_option maxRecDepth 20000 in
theorem gX2_factor_X7_step : GoodIn wsX2_factor (wsV RX2 62 RX7 yX7_step wsX7_step) := goodIn_app (goodIn_of _ (by decide +kernel)) ggX2_factor_X7_step
set_option maxRecDepth 20000 in
theorem ggX2_factor_X7_fail : GoodIn wsX2_factor wsX7_fail := goodIn_r _ [19, 6, 20, 21, 22, 4, 23, 24, 25, 77, 78, 79, 80, 81, 82] (by decide +kernel) (by decide +kernel)
set_option maxRecDepth 20000 in
theorem gX2_factor_X7_fail : GoodIn wsX2_factor (wsV RX2 58 RX7 yX7_fail wsX7_fail) := goodIn_app (goodIn_of _ (by decide +kernel)) ggX2_factor_X7_fail
theorem dX2_factor_0 : decode cX2_factor 0 = .ok (.aload_n 1, 1) := by decide +kernel
theorem dX2_factor_1 : decode cX2_factor 1 = .ok (.invokevirtual 54, 3) := by decide +kernel
theorem dX2_factor_4 : decode cX2_factor 4 = .ok (.istore_n 3, 1) := by decide +kernel
theorem dX2_factor_5 : decode cX2_factor 5 = .ok (.iload_n 3, 1) := by decide +kernel
theorem dX2_factor_6 : decode cX2_factor 6 = .ok (.bipush 91, 2) := by decide +kernel
theorem dX2_factor_8 : decode cX2_factor 8 = .ok (.if_icmp .ne 28, 3) := by decide +kernel
theorem dX2_factor_11 : decode cX2_factor 11 = .ok (.aload_n 1, 1) := by decide +kernel
theorem dX2_factor_12 : decode cX2_factor 12 = .ok (.iload_n 2, 1) := by decide +kernel
theorem dX2_factor_13 : decode cX2_factor 13 = .ok (.invokestatic 96, 3) := by decide +kernel
theorem dX2_factor_16 : decode cX2_factor 16 = .ok (.ifCond .eq 71, 3) := by decide +kernel
theorem dX2_factor_19 : decode cX2_factor 19 = .ok (.aload_n 0, 1) := by decide +kernel
theorem dX2_factor_20 : decode cX2_factor 20 = .ok (.aload_n 1, 1) := by decide +kernel
theorem dX2_factor_21 : decode cX2_factor 21 = .ok (.iload_n 2, 1) := by decide +kernel
theorem dX2_factor_22 : decode cX2_factor 22 = .ok (.iconst 1, 1) := by decide +kernel
theorem dX2_factor_23 : decode cX2_factor 23 = .ok (.iadd, 1) := by decide +kernel
theorem dX2_factor_24 : decode cX2_factor 24 = .ok (.invokevirtual 69, 3) := by decide +kernel
theorem dX2_factor_27 : decode cX2_factor 27 = .ok (.aload_n 1, 1) := by decide +kernel
theorem dX2_factor_28 : decode cX2_factor 28 = .ok (.bipush 93, 2) := by decide +kernel
theorem dX2_factor_30 : decode cX2_factor 30 = .ok (.invokestatic 83, 3) := by decide +kernel
theorem dX2_factor_33 : decode cX2_factor 33 = .ok (.goto 54, 3) := by decide +kernel
theorem dX2_factor_36 : decode cX2_factor 36 = .ok (.iload_n 3, 1) := by decide +kernel
theorem dX2_factor_37 : decode cX2_factor 37 = .ok (.invokestatic 106, 3) := by decide +kernel
theorem dX2_factor_40 : decode cX2_factor 40 = .ok (.ifCond .eq 17, 3) := by decide +kernel
theorem dX2_factor_43 : decode cX2_factor 43 = .ok (.aload_n 0, 1) := by decide +kernel
theorem dX2_factor_44 : decode cX2_factor 44 = .ok (.iconst 1, 1) := by decide +kernel
theorem dX2_factor_45 : decode cX2_factor 45 = .ok (.aload_n 1, 1) := by decide +kernel
theorem dX2_factor_46 : decode cX2_factor 46 = .ok (.iconst 5, 1) := by decide +kernel
theorem dX2_factor_47 : decode cX2_factor 47 = .ok (.invokevirtual 109, 3) := by decide +kernel
theorem dX2_factor_50 : decode cX2_factor 50 = .ok (.invokevirtual 89, 3) := by decide +kernel
theorem dX2_factor_53 : decode cX2_factor 53 = .ok (.pop, 1) := by decide +kernel
theorem dX2_factor_54 : decode cX2_factor 54 = .ok (.goto 33, 3) := by decide +kernel
theorem dX2_factor_57 : decode cX2_factor 57 = .ok (.iload_n 3, 1) := by decide +kernel
theorem dX2_factor_58 : decode cX2_factor 58 = .ok (.invokestatic 113, 3) := by decide +kernel
theorem dX2_factor_61 : decode cX2_factor 61 = .ok (.iconst (-1), 1) := by decide +kernel
theorem dX2_factor_62 : decode cX2_factor 62 = .ok (.if_icmp .eq 20, 3) := by decide +kernel
theorem dX2_factor_65 : decode cX2_factor 65 = .ok (.aload_n 0, 1) := by decide +kernel
theorem dX2_factor_66 : decode cX2_factor 66 = .ok (.iconst 2, 1) := by decide +kernel
theorem dX2_factor_67 : decode cX2_factor 67 = .ok (.iload_n 3, 1) := by decide +kernel
theorem dX2_factor_68 : decode cX2_factor 68 = .ok (.invokestatic 113, 3) := by decide +kernel
theorem dX2_factor_71 : decode cX2_factor 71 = .ok (.invokevirtual 89, 3) := by decide +kernel
theorem dX2_factor_74 : decode cX2_factor 74 = .ok (.pop, 1) := by decide +kernel
theorem dX2_factor_75 : decode cX2_factor 75 = .ok (.aload_n 1, 1) := by decide +kernel
theorem dX2_factor_76 : decode cX2_factor 76 = .ok (.invokevirtual 62, 3) := by decide +kernel
theorem dX2_factor_79 : decode cX2_factor 79 = .ok (.goto 8, 3) := by decide +kernel
theorem dX2_factor_82 : decode cX2_factor 82 = .ok (.aload_n 1, 1) := by decide +kernel
theorem dX2_factor_83 : decode cX2_factor 83 = .ok (.iconst 1, 1) := by decide +kernel
theorem dX2_factor_84 : decode cX2_factor 84 = .ok (.invokevirtual 58, 3) := by decide +kernel
theorem dX2_factor_87 : decode cX2_factor 87 = .ok (.return_, 1) := by decide +kernel
theorem dX2_letterOf_0 : decode cX2_letterOf 0 = .ok (.iload_n 0, 1) := by decide +kernel
theorem dX2_letterOf_1 : decode cX2_letterOf 1 = .ok (.tableswitch 105 99 116 #[93, 102, 105, 105, 91, 99, 105, 105, 105, 97, 105, 95, 105, 87, 105, 105, 105, 89], 87) := by decide +kernel
theorem dX2_letterOf_88 : decode cX2_letterOf 88 = .ok (.iconst 0, 1) := by decide +kernel
theorem dX2_letterOf_89 : decode cX2_letterOf 89 = .ok (.ireturn, 1) := by decide +kernel
theorem dX2_letterOf_90 : decode cX2_letterOf 90 = .ok (.iconst 1, 1) := by decide +kernel
theorem dX2_letterOf_91 : decode cX2_letterOf 91 = .ok (.ireturn, 1) := by decide +kernel
theorem dX2_letterOf_92 : decode cX2_letterOf 92 = .ok (.iconst 2, 1) := by decide +kernel
theorem dX2_letterOf_93 : decode cX2_letterOf 93 = .ok (.ireturn, 1) := by decide +kernel
theorem dX2_letterOf_94 : decode cX2_letterOf 94 = .ok (.iconst 3, 1) := by decide +kernel
theorem dX2_letterOf_95 : decode cX2_letterOf 95 = .ok (.ireturn, 1) := by decide +kernel
theorem dX2_letterOf_96 : decode cX2_letterOf 96 = .ok (.iconst 4, 1) := by decide +kernel
theorem dX2_letterOf_97 : decode cX2_letterOf 97 = .ok (.ireturn, 1) := by decide +kernel
theorem dX2_letterOf_98 : decode cX2_letterOf 98 = .ok (.iconst 5, 1) := by decide +kernel
theorem dX2_letterOf_99 : decode cX2_letterOf 99 = .ok (.ireturn, 1) := by decide +kernel
theorem dX2_letterOf_100 : decode cX2_letterOf 100 = .ok (.bipush 6, 2) := by decide +kernel
theorem dX2_letterOf_102 : decode cX2_letterOf 102 = .ok (.ireturn, 1) := by decide +kernel
theorem dX2_letterOf_103 : decode cX2_letterOf 103 = .ok (.bipush 7, 2) := by decide +kernel
theorem dX2_letterOf_105 : decode cX2_letterOf 105 = .ok (.ireturn, 1) := by decide +kernel
theorem dX2_letterOf_106 : decode cX2_letterOf 106 = .ok (.iconst (-1), 1) := by decide +kernel
theorem dX2_letterOf_107 : decode cX2_letterOf 107 = .ok (.ireturn, 1) := by decide +kernel
set_option maxRecDepth 20000 in
theorem ggX2_order_X9_put : GoodIn wsX2_order wsX9_put := goodIn_r _ [6] (by decide +kernel) (by decide +kernel)
set_option maxRecDepth 20000 in
theorem gX2_order_X9_put_n65 : GoodIn wsX2_order (wsX9_put) := ggX2_order_X9_put
theorem dX2_order_0 : decode cX2_order 0 = .ok (.aload_n 0, 1) := by decide +kernel
theorem dX2_order_1 : decode cX2_order 1 = .ok (.getfield 11, 3) := by decide +kernel
theorem dX2_order_4 : decode cX2_order 4 = .ok (.aload_n 0, 1) := by decide +kernel
theorem dX2_order_5 : decode cX2_order 5 = .ok (.getfield 33, 3) := by decide +kernel
theorem dX2_order_8 : decode cX2_order 8 = .ok (.iload_n 1, 1) := by decide +kernel
theorem dX2_order_9 : decode cX2_order 9 = .ok (.invokestatic 65, 3) := by decide +kernel
theorem dX2_order_12 : decode cX2_order 12 = .ok (.aload_n 0, 1) := by decide +kernel
theorem dX2_order_13 : decode cX2_order 13 = .ok (.getfield 15, 3) := by decide +kernel
theorem dX2_order_16 : decode cX2_order 16 = .ok (.aload_n 0, 1) := by decide +kernel
theorem dX2_order_17 : decode cX2_order 17 = .ok (.getfield 33, 3) := by decide +kernel
theorem dX2_order_20 : decode cX2_order 20 = .ok (.iload_n 2, 1) := by decide +kernel
theorem dX2_order_21 : decode cX2_order 21 = .ok (.invokestatic 65, 3) := by decide +kernel
theorem dX2_order_24 : decode cX2_order 24 = .ok (.aload_n 0, 1) := by decide +kernel
theorem dX2_order_25 : decode cX2_order 25 = .ok (.dup, 1) := by decide +kernel
theorem dX2_order_26 : decode cX2_order 26 = .ok (.getfield 33, 3) := by decide +kernel
theorem dX2_order_29 : decode cX2_order 29 = .ok (.iconst 1, 1) := by decide +kernel
theorem dX2_order_30 : decode cX2_order 30 = .ok (.iadd, 1) := by decide +kernel
theorem dX2_order_31 : decode cX2_order 31 = .ok (.putfield 33, 3) := by decide +kernel
theorem dX2_order_34 : decode cX2_order 34 = .ok (.aload_n 0, 1) := by decide +kernel
theorem dX2_order_35 : decode cX2_order 35 = .ok (.getfield 33, 3) := by decide +kernel
theorem dX2_order_38 : decode cX2_order 38 = .ok (.iconst 1, 1) := by decide +kernel
theorem dX2_order_39 : decode cX2_order 39 = .ok (.isub, 1) := by decide +kernel
theorem dX2_order_40 : decode cX2_order 40 = .ok (.ireturn, 1) := by decide +kernel
set_option maxRecDepth 20000 in
theorem ggX2_isSafe_X9_at : GoodIn wsX2_isSafe wsX9_at := goodIn_r _ [7] (by decide +kernel) (by decide +kernel)
set_option maxRecDepth 20000 in
theorem gX2_isSafe_X9_at_n116 : GoodIn wsX2_isSafe (wsX9_at) := ggX2_isSafe_X9_at
set_option maxRecDepth 20000 in
theorem ggX2_isSafe_X2_reckoned : GoodIn wsX2_isSafe wsX2_reckoned := goodIn_r _ [12, 13, 14, 15, 16, 5, 6, 7, 17, 18, 19, 20, 21, 11, 22, 23, 24, 25, 26, 27, 28, 29, 30, 31, 32] (by decide +kernel) (by decide +kernel)
set_option maxRecDepth 20000 in
theorem gX2_isSafe_X2_reckoned : GoodIn wsX2_isSafe (wsV RX2 120 RX2 yX2_reckoned wsX2_reckoned) := goodIn_app (goodIn_of _ (by decide +kernel)) ggX2_isSafe_X2_reckoned
theorem dX2_isSafe_0 : decode cX2_isSafe 0 = .ok (.iconst 0, 1) := by decide +kernel
theorem dX2_isSafe_1 : decode cX2_isSafe 1 = .ok (.istore_n 2, 1) := by decide +kernel
theorem dX2_isSafe_2 : decode cX2_isSafe 2 = .ok (.iload_n 2, 1) := by decide +kernel
theorem dX2_isSafe_3 : decode cX2_isSafe 3 = .ok (.aload_n 0, 1) := by decide +kernel
theorem dX2_isSafe_4 : decode cX2_isSafe 4 = .ok (.getfield 41, 3) := by decide +kernel
theorem dX2_isSafe_7 : decode cX2_isSafe 7 = .ok (.if_icmp .ge 48, 3) := by decide +kernel
theorem dX2_isSafe_10 : decode cX2_isSafe 10 = .ok (.aload_n 0, 1) := by decide +kernel
theorem dX2_isSafe_11 : decode cX2_isSafe 11 = .ok (.getfield 18, 3) := by decide +kernel
theorem dX2_isSafe_14 : decode cX2_isSafe 14 = .ok (.iload_n 2, 1) := by decide +kernel
theorem dX2_isSafe_15 : decode cX2_isSafe 15 = .ok (.invokestatic 116, 3) := by decide +kernel
theorem dX2_isSafe_18 : decode cX2_isSafe 18 = .ok (.bipush 115, 2) := by decide +kernel
theorem dX2_isSafe_20 : decode cX2_isSafe 20 = .ok (.if_icmp .ne 29, 3) := by decide +kernel
theorem dX2_isSafe_23 : decode cX2_isSafe 23 = .ok (.aload_n 0, 1) := by decide +kernel
theorem dX2_isSafe_24 : decode cX2_isSafe 24 = .ok (.aload_n 0, 1) := by decide +kernel
theorem dX2_isSafe_25 : decode cX2_isSafe 25 = .ok (.getfield 24, 3) := by decide +kernel
theorem dX2_isSafe_28 : decode cX2_isSafe 28 = .ok (.iload_n 2, 1) := by decide +kernel
theorem dX2_isSafe_29 : decode cX2_isSafe 29 = .ok (.invokestatic 116, 3) := by decide +kernel
theorem dX2_isSafe_32 : decode cX2_isSafe 32 = .ok (.aload_n 0, 1) := by decide +kernel
theorem dX2_isSafe_33 : decode cX2_isSafe 33 = .ok (.getfield 27, 3) := by decide +kernel
theorem dX2_isSafe_36 : decode cX2_isSafe 36 = .ok (.iload_n 2, 1) := by decide +kernel
theorem dX2_isSafe_37 : decode cX2_isSafe 37 = .ok (.invokestatic 116, 3) := by decide +kernel
theorem dX2_isSafe_40 : decode cX2_isSafe 40 = .ok (.aload_n 1, 1) := by decide +kernel
theorem dX2_isSafe_41 : decode cX2_isSafe 41 = .ok (.invokevirtual 120, 3) := by decide +kernel
theorem dX2_isSafe_44 : decode cX2_isSafe 44 = .ok (.ifCond .eq 5, 3) := by decide +kernel
theorem dX2_isSafe_47 : decode cX2_isSafe 47 = .ok (.iconst 1, 1) := by decide +kernel
theorem dX2_isSafe_48 : decode cX2_isSafe 48 = .ok (.ireturn, 1) := by decide +kernel
theorem dX2_isSafe_49 : decode cX2_isSafe 49 = .ok (.iinc 2 1, 3) := by decide +kernel
theorem dX2_isSafe_52 : decode cX2_isSafe 52 = .ok (.goto (-50), 3) := by decide +kernel
theorem dX2_isSafe_55 : decode cX2_isSafe 55 = .ok (.iconst 0, 1) := by decide +kernel
theorem dX2_isSafe_56 : decode cX2_isSafe 56 = .ok (.ireturn, 1) := by decide +kernel
set_option maxRecDepth 20000 in
theorem ggX2_rate_X9_at : GoodIn wsX2_rate wsX9_at := goodIn_r _ [8] (by decide +kernel) (by decide +kernel)
set_option maxRecDepth 20000 in
theorem gX2_rate_X9_at_n116 : GoodIn wsX2_rate (wsX9_at) := ggX2_rate_X9_at
set_option maxRecDepth 20000 in
theorem ggX2_rate_X2_reckoned : GoodIn wsX2_rate wsX2_reckoned := goodIn_r _ [13, 14, 15, 16, 17, 6, 7, 8, 18, 19, 20, 21, 22, 12, 23, 33, 34, 35, 36, 37, 38, 39, 40, 41, 42] (by decide +kernel) (by decide +kernel)
set_option maxRecDepth 20000 in
theorem gX2_rate_X2_reckoned : GoodIn wsX2_rate (wsV RX2 120 RX2 yX2_reckoned wsX2_reckoned) := goodIn_app (goodIn_of _ (by decide +kernel)) ggX2_rate_X2_reckoned
set_option maxRecDepth 20000 in
theorem ggX2_rate_X9_clamp : GoodIn wsX2_rate wsX9_clamp := goodIn_r _ [25, 26, 27, 28, 29, 30, 31, 32] (by decide +kernel) (by decide +kernel)
set_option maxRecDepth 20000 in
theorem gX2_rate_X9_clamp_n124 : GoodIn wsX2_rate (wsX9_clamp) := ggX2_rate_X9_clamp
theorem dX2_rate_0 : decode cX2_rate 0 = .ok (.iconst 0, 1) := by decide +kernel
theorem dX2_rate_1 : decode cX2_rate 1 = .ok (.istore 4, 2) := by decide +kernel
theorem dX2_rate_3 : decode cX2_rate 3 = .ok (.iload 4, 2) := by decide +kernel
theorem dX2_rate_5 : decode cX2_rate 5 = .ok (.aload_n 0, 1) := by decide +kernel
theorem dX2_rate_6 : decode cX2_rate 6 = .ok (.getfield 41, 3) := by decide +kernel
theorem dX2_rate_9 : decode cX2_rate 9 = .ok (.if_icmp .ge 77, 3) := by decide +kernel
theorem dX2_rate_12 : decode cX2_rate 12 = .ok (.aload_n 0, 1) := by decide +kernel
theorem dX2_rate_13 : decode cX2_rate 13 = .ok (.getfield 18, 3) := by decide +kernel
theorem dX2_rate_16 : decode cX2_rate 16 = .ok (.iload 4, 2) := by decide +kernel
theorem dX2_rate_18 : decode cX2_rate 18 = .ok (.invokestatic 116, 3) := by decide +kernel
theorem dX2_rate_21 : decode cX2_rate 21 = .ok (.iload_n 1, 1) := by decide +kernel
theorem dX2_rate_22 : decode cX2_rate 22 = .ok (.if_icmp .ne 58, 3) := by decide +kernel
theorem dX2_rate_25 : decode cX2_rate 25 = .ok (.aload_n 0, 1) := by decide +kernel
theorem dX2_rate_26 : decode cX2_rate 26 = .ok (.aload_n 0, 1) := by decide +kernel
theorem dX2_rate_27 : decode cX2_rate 27 = .ok (.getfield 24, 3) := by decide +kernel
theorem dX2_rate_30 : decode cX2_rate 30 = .ok (.iload 4, 2) := by decide +kernel
theorem dX2_rate_32 : decode cX2_rate 32 = .ok (.invokestatic 116, 3) := by decide +kernel
theorem dX2_rate_35 : decode cX2_rate 35 = .ok (.aload_n 0, 1) := by decide +kernel
theorem dX2_rate_36 : decode cX2_rate 36 = .ok (.getfield 27, 3) := by decide +kernel
theorem dX2_rate_39 : decode cX2_rate 39 = .ok (.iload 4, 2) := by decide +kernel
theorem dX2_rate_41 : decode cX2_rate 41 = .ok (.invokestatic 116, 3) := by decide +kernel
theorem dX2_rate_44 : decode cX2_rate 44 = .ok (.aload_n 3, 1) := by decide +kernel
theorem dX2_rate_45 : decode cX2_rate 45 = .ok (.invokevirtual 120, 3) := by decide +kernel
theorem dX2_rate_48 : decode cX2_rate 48 = .ok (.ifCond .eq 32, 3) := by decide +kernel
theorem dX2_rate_51 : decode cX2_rate 51 = .ok (.aload_n 0, 1) := by decide +kernel
theorem dX2_rate_52 : decode cX2_rate 52 = .ok (.aload_n 0, 1) := by decide +kernel
theorem dX2_rate_53 : decode cX2_rate 53 = .ok (.getfield 21, 3) := by decide +kernel
theorem dX2_rate_56 : decode cX2_rate 56 = .ok (.iload 4, 2) := by decide +kernel
theorem dX2_rate_58 : decode cX2_rate 58 = .ok (.invokestatic 116, 3) := by decide +kernel
theorem dX2_rate_61 : decode cX2_rate 61 = .ok (.aload_n 0, 1) := by decide +kernel
theorem dX2_rate_62 : decode cX2_rate 62 = .ok (.getfield 24, 3) := by decide +kernel
theorem dX2_rate_65 : decode cX2_rate 65 = .ok (.iload 4, 2) := by decide +kernel
theorem dX2_rate_67 : decode cX2_rate 67 = .ok (.invokestatic 116, 3) := by decide +kernel
theorem dX2_rate_70 : decode cX2_rate 70 = .ok (.aload_n 3, 1) := by decide +kernel
theorem dX2_rate_71 : decode cX2_rate 71 = .ok (.invokevirtual 120, 3) := by decide +kernel
theorem dX2_rate_74 : decode cX2_rate 74 = .ok (.iconst 0, 1) := by decide +kernel
theorem dX2_rate_75 : decode cX2_rate 75 = .ok (.iload_n 2, 1) := by decide +kernel
theorem dX2_rate_76 : decode cX2_rate 76 = .ok (.invokestatic 124, 3) := by decide +kernel
theorem dX2_rate_79 : decode cX2_rate 79 = .ok (.ireturn, 1) := by decide +kernel
theorem dX2_rate_80 : decode cX2_rate 80 = .ok (.iinc 4 1, 3) := by decide +kernel
theorem dX2_rate_83 : decode cX2_rate 83 = .ok (.goto (-80), 3) := by decide +kernel
theorem dX2_rate_86 : decode cX2_rate 86 = .ok (.iconst 0, 1) := by decide +kernel
theorem dX2_rate_87 : decode cX2_rate 87 = .ok (.ireturn, 1) := by decide +kernel
set_option maxRecDepth 20000 in
theorem ggX2_reckoned_X9_at : GoodIn wsX2_reckoned wsX9_at := goodIn_r _ [7] (by decide +kernel) (by decide +kernel)
set_option maxRecDepth 20000 in
theorem gX2_reckoned_X9_at_n116 : GoodIn wsX2_reckoned (wsX9_at) := ggX2_reckoned_X9_at
set_option maxRecDepth 20000 in
theorem ggX2_reckoned_X9_put : GoodIn wsX2_reckoned wsX9_put := goodIn_r _ [9] (by decide +kernel) (by decide +kernel)
set_option maxRecDepth 20000 in
theorem gX2_reckoned_X9_put_n65 : GoodIn wsX2_reckoned (wsX9_put) := ggX2_reckoned_X9_put
set_option maxRecDepth 20000 in
theorem ggX2_reckoned_X2_joined : GoodIn wsX2_reckoned wsX2_joined := goodIn_r _ [14, 1, 15, 16, 17, 18, 19, 20, 21, 22, 23, 24] (by decide +kernel) (by decide +kernel)
set_option maxRecDepth 20000 in
theorem gX2_reckoned_X2_joined : GoodIn wsX2_reckoned (wsV RX2 128 RX2 yX2_joined wsX2_joined) := goodIn_app (goodIn_of _ (by decide +kernel)) ggX2_reckoned_X2_joined
theorem dX2_reckoned_0 : decode cX2_reckoned 0 = .ok (.iconst 0, 1) := by decide +kernel
theorem dX2_reckoned_1 : decode cX2_reckoned 1 = .ok (.istore 4, 2) := by decide +kernel
theorem dX2_reckoned_3 : decode cX2_reckoned 3 = .ok (.iload_n 1, 1) := by decide +kernel
theorem dX2_reckoned_4 : decode cX2_reckoned 4 = .ok (.istore 5, 2) := by decide +kernel
theorem dX2_reckoned_6 : decode cX2_reckoned 6 = .ok (.aload_n 0, 1) := by decide +kernel
theorem dX2_reckoned_7 : decode cX2_reckoned 7 = .ok (.iconst 0, 1) := by decide +kernel
theorem dX2_reckoned_8 : decode cX2_reckoned 8 = .ok (.putfield 37, 3) := by decide +kernel
theorem dX2_reckoned_11 : decode cX2_reckoned 11 = .ok (.iconst 0, 1) := by decide +kernel
theorem dX2_reckoned_12 : decode cX2_reckoned 12 = .ok (.istore 6, 2) := by decide +kernel
theorem dX2_reckoned_14 : decode cX2_reckoned 14 = .ok (.iload 6, 2) := by decide +kernel
theorem dX2_reckoned_16 : decode cX2_reckoned 16 = .ok (.sipush 240, 3) := by decide +kernel
theorem dX2_reckoned_19 : decode cX2_reckoned 19 = .ok (.if_icmp .ge 242, 3) := by decide +kernel
theorem dX2_reckoned_22 : decode cX2_reckoned 22 = .ok (.iload 5, 2) := by decide +kernel
theorem dX2_reckoned_24 : decode cX2_reckoned 24 = .ok (.iload_n 2, 1) := by decide +kernel
theorem dX2_reckoned_25 : decode cX2_reckoned 25 = .ok (.if_icmp .ge 236, 3) := by decide +kernel
theorem dX2_reckoned_28 : decode cX2_reckoned 28 = .ok (.aload_n 0, 1) := by decide +kernel
theorem dX2_reckoned_29 : decode cX2_reckoned 29 = .ok (.getfield 37, 3) := by decide +kernel
theorem dX2_reckoned_32 : decode cX2_reckoned 32 = .ok (.ifCond .ne 229, 3) := by decide +kernel
theorem dX2_reckoned_35 : decode cX2_reckoned 35 = .ok (.aload_n 0, 1) := by decide +kernel
theorem dX2_reckoned_36 : decode cX2_reckoned 36 = .ok (.getfield 11, 3) := by decide +kernel
theorem dX2_reckoned_39 : decode cX2_reckoned 39 = .ok (.iload 5, 2) := by decide +kernel
theorem dX2_reckoned_41 : decode cX2_reckoned 41 = .ok (.invokestatic 116, 3) := by decide +kernel
theorem dX2_reckoned_44 : decode cX2_reckoned 44 = .ok (.istore 7, 2) := by decide +kernel
theorem dX2_reckoned_46 : decode cX2_reckoned 46 = .ok (.aload_n 0, 1) := by decide +kernel
theorem dX2_reckoned_47 : decode cX2_reckoned 47 = .ok (.getfield 15, 3) := by decide +kernel
theorem dX2_reckoned_50 : decode cX2_reckoned 50 = .ok (.iload 5, 2) := by decide +kernel
theorem dX2_reckoned_52 : decode cX2_reckoned 52 = .ok (.invokestatic 116, 3) := by decide +kernel
theorem dX2_reckoned_55 : decode cX2_reckoned 55 = .ok (.istore 8, 2) := by decide +kernel
theorem dX2_reckoned_57 : decode cX2_reckoned 57 = .ok (.aload_n 0, 1) := by decide +kernel
theorem dX2_reckoned_58 : decode cX2_reckoned 58 = .ok (.getfield 30, 3) := by decide +kernel
theorem dX2_reckoned_61 : decode cX2_reckoned 61 = .ok (.iload 4, 2) := by decide +kernel
theorem dX2_reckoned_63 : decode cX2_reckoned 63 = .ok (.iconst 1, 1) := by decide +kernel
theorem dX2_reckoned_64 : decode cX2_reckoned 64 = .ok (.isub, 1) := by decide +kernel
theorem dX2_reckoned_65 : decode cX2_reckoned 65 = .ok (.invokestatic 116, 3) := by decide +kernel
theorem dX2_reckoned_68 : decode cX2_reckoned 68 = .ok (.istore 9, 2) := by decide +kernel
theorem dX2_reckoned_70 : decode cX2_reckoned 70 = .ok (.iinc 5 1, 3) := by decide +kernel
theorem dX2_reckoned_73 : decode cX2_reckoned 73 = .ok (.iload 7, 2) := by decide +kernel
theorem dX2_reckoned_75 : decode cX2_reckoned 75 = .ok (.iconst 1, 1) := by decide +kernel
theorem dX2_reckoned_76 : decode cX2_reckoned 76 = .ok (.if_icmp .eq 9, 3) := by decide +kernel
theorem dX2_reckoned_79 : decode cX2_reckoned 79 = .ok (.iload 7, 2) := by decide +kernel
theorem dX2_reckoned_81 : decode cX2_reckoned 81 = .ok (.iconst 2, 1) := by decide +kernel
theorem dX2_reckoned_82 : decode cX2_reckoned 82 = .ok (.if_icmp .ne 35, 3) := by decide +kernel
theorem dX2_reckoned_85 : decode cX2_reckoned 85 = .ok (.aload_n 0, 1) := by decide +kernel
theorem dX2_reckoned_86 : decode cX2_reckoned 86 = .ok (.getfield 30, 3) := by decide +kernel
theorem dX2_reckoned_89 : decode cX2_reckoned 89 = .ok (.iload 4, 2) := by decide +kernel
theorem dX2_reckoned_91 : decode cX2_reckoned 91 = .ok (.iload 7, 2) := by decide +kernel
theorem dX2_reckoned_93 : decode cX2_reckoned 93 = .ok (.iconst 1, 1) := by decide +kernel
theorem dX2_reckoned_94 : decode cX2_reckoned 94 = .ok (.if_icmp .ne 8, 3) := by decide +kernel
theorem dX2_reckoned_97 : decode cX2_reckoned 97 = .ok (.iload 8, 2) := by decide +kernel
theorem dX2_reckoned_99 : decode cX2_reckoned 99 = .ok (.goto 9, 3) := by decide +kernel
theorem dX2_reckoned_102 : decode cX2_reckoned 102 = .ok (.aload_n 3, 1) := by decide +kernel
theorem dX2_reckoned_103 : decode cX2_reckoned 103 = .ok (.iload 8, 2) := by decide +kernel
theorem dX2_reckoned_105 : decode cX2_reckoned 105 = .ok (.invokestatic 116, 3) := by decide +kernel
theorem dX2_reckoned_108 : decode cX2_reckoned 108 = .ok (.invokestatic 65, 3) := by decide +kernel
theorem dX2_reckoned_111 : decode cX2_reckoned 111 = .ok (.iinc 4 1, 3) := by decide +kernel
theorem dX2_reckoned_114 : decode cX2_reckoned 114 = .ok (.goto 141, 3) := by decide +kernel
theorem dX2_reckoned_117 : decode cX2_reckoned 117 = .ok (.iload 7, 2) := by decide +kernel
theorem dX2_reckoned_119 : decode cX2_reckoned 119 = .ok (.iconst 3, 1) := by decide +kernel
theorem dX2_reckoned_120 : decode cX2_reckoned 120 = .ok (.if_icmp .ne 27, 3) := by decide +kernel
theorem dX2_reckoned_123 : decode cX2_reckoned 123 = .ok (.aload_n 0, 1) := by decide +kernel
theorem dX2_reckoned_124 : decode cX2_reckoned 124 = .ok (.getfield 30, 3) := by decide +kernel
theorem dX2_reckoned_127 : decode cX2_reckoned 127 = .ok (.iload 4, 2) := by decide +kernel
theorem dX2_reckoned_129 : decode cX2_reckoned 129 = .ok (.iconst 1, 1) := by decide +kernel
theorem dX2_reckoned_130 : decode cX2_reckoned 130 = .ok (.isub, 1) := by decide +kernel
theorem dX2_reckoned_131 : decode cX2_reckoned 131 = .ok (.iload 9, 2) := by decide +kernel
theorem dX2_reckoned_133 : decode cX2_reckoned 133 = .ok (.ifCond .ne 7, 3) := by decide +kernel
theorem dX2_reckoned_136 : decode cX2_reckoned 136 = .ok (.iconst 1, 1) := by decide +kernel
theorem dX2_reckoned_137 : decode cX2_reckoned 137 = .ok (.goto 4, 3) := by decide +kernel
theorem dX2_reckoned_140 : decode cX2_reckoned 140 = .ok (.iconst 0, 1) := by decide +kernel
theorem dX2_reckoned_141 : decode cX2_reckoned 141 = .ok (.invokestatic 65, 3) := by decide +kernel
theorem dX2_reckoned_144 : decode cX2_reckoned 144 = .ok (.goto 111, 3) := by decide +kernel
theorem dX2_reckoned_147 : decode cX2_reckoned 147 = .ok (.iload 7, 2) := by decide +kernel
theorem dX2_reckoned_149 : decode cX2_reckoned 149 = .ok (.iconst 4, 1) := by decide +kernel
theorem dX2_reckoned_150 : decode cX2_reckoned 150 = .ok (.if_icmp .eq 9, 3) := by decide +kernel
theorem dX2_reckoned_153 : decode cX2_reckoned 153 = .ok (.iload 7, 2) := by decide +kernel
theorem dX2_reckoned_155 : decode cX2_reckoned 155 = .ok (.iconst 5, 1) := by decide +kernel
theorem dX2_reckoned_156 : decode cX2_reckoned 156 = .ok (.if_icmp .ne 66, 3) := by decide +kernel
theorem dX2_reckoned_159 : decode cX2_reckoned 159 = .ok (.iload 7, 2) := by decide +kernel
theorem dX2_reckoned_161 : decode cX2_reckoned 161 = .ok (.iconst 4, 1) := by decide +kernel
theorem dX2_reckoned_162 : decode cX2_reckoned 162 = .ok (.if_icmp .ne 7, 3) := by decide +kernel
theorem dX2_reckoned_165 : decode cX2_reckoned 165 = .ok (.iconst 1, 1) := by decide +kernel
theorem dX2_reckoned_166 : decode cX2_reckoned 166 = .ok (.goto 4, 3) := by decide +kernel
theorem dX2_reckoned_169 : decode cX2_reckoned 169 = .ok (.iconst 0, 1) := by decide +kernel
theorem dX2_reckoned_170 : decode cX2_reckoned 170 = .ok (.iload 9, 2) := by decide +kernel
theorem dX2_reckoned_172 : decode cX2_reckoned 172 = .ok (.ifCond .eq 7, 3) := by decide +kernel
theorem dX2_reckoned_175 : decode cX2_reckoned 175 = .ok (.iconst 1, 1) := by decide +kernel
theorem dX2_reckoned_176 : decode cX2_reckoned 176 = .ok (.goto 4, 3) := by decide +kernel
theorem dX2_reckoned_179 : decode cX2_reckoned 179 = .ok (.iconst 0, 1) := by decide +kernel
theorem dX2_reckoned_180 : decode cX2_reckoned 180 = .ok (.if_icmp .ne 7, 3) := by decide +kernel
theorem dX2_reckoned_183 : decode cX2_reckoned 183 = .ok (.iconst 1, 1) := by decide +kernel
theorem dX2_reckoned_184 : decode cX2_reckoned 184 = .ok (.goto 4, 3) := by decide +kernel
theorem dX2_reckoned_187 : decode cX2_reckoned 187 = .ok (.iconst 0, 1) := by decide +kernel
theorem dX2_reckoned_188 : decode cX2_reckoned 188 = .ok (.istore 10, 2) := by decide +kernel
theorem dX2_reckoned_190 : decode cX2_reckoned 190 = .ok (.iload 4, 2) := by decide +kernel
theorem dX2_reckoned_192 : decode cX2_reckoned 192 = .ok (.iload 10, 2) := by decide +kernel
theorem dX2_reckoned_194 : decode cX2_reckoned 194 = .ok (.ifCond .eq 7, 3) := by decide +kernel
theorem dX2_reckoned_197 : decode cX2_reckoned 197 = .ok (.iconst 1, 1) := by decide +kernel
theorem dX2_reckoned_198 : decode cX2_reckoned 198 = .ok (.goto 4, 3) := by decide +kernel
theorem dX2_reckoned_201 : decode cX2_reckoned 201 = .ok (.iconst 0, 1) := by decide +kernel
theorem dX2_reckoned_202 : decode cX2_reckoned 202 = .ok (.isub, 1) := by decide +kernel
theorem dX2_reckoned_203 : decode cX2_reckoned 203 = .ok (.istore 4, 2) := by decide +kernel
theorem dX2_reckoned_205 : decode cX2_reckoned 205 = .ok (.iload 10, 2) := by decide +kernel
theorem dX2_reckoned_207 : decode cX2_reckoned 207 = .ok (.ifCond .eq 8, 3) := by decide +kernel
theorem dX2_reckoned_210 : decode cX2_reckoned 210 = .ok (.iload 5, 2) := by decide +kernel
theorem dX2_reckoned_212 : decode cX2_reckoned 212 = .ok (.goto 5, 3) := by decide +kernel
theorem dX2_reckoned_215 : decode cX2_reckoned 215 = .ok (.iload 8, 2) := by decide +kernel
theorem dX2_reckoned_217 : decode cX2_reckoned 217 = .ok (.istore 5, 2) := by decide +kernel
theorem dX2_reckoned_219 : decode cX2_reckoned 219 = .ok (.goto 36, 3) := by decide +kernel
theorem dX2_reckoned_222 : decode cX2_reckoned 222 = .ok (.iinc 4 (-1), 3) := by decide +kernel
theorem dX2_reckoned_225 : decode cX2_reckoned 225 = .ok (.aload_n 0, 1) := by decide +kernel
theorem dX2_reckoned_226 : decode cX2_reckoned 226 = .ok (.getfield 30, 3) := by decide +kernel
theorem dX2_reckoned_229 : decode cX2_reckoned 229 = .ok (.iload 4, 2) := by decide +kernel
theorem dX2_reckoned_231 : decode cX2_reckoned 231 = .ok (.iconst 1, 1) := by decide +kernel
theorem dX2_reckoned_232 : decode cX2_reckoned 232 = .ok (.isub, 1) := by decide +kernel
theorem dX2_reckoned_233 : decode cX2_reckoned 233 = .ok (.aload_n 0, 1) := by decide +kernel
theorem dX2_reckoned_234 : decode cX2_reckoned 234 = .ok (.iload 7, 2) := by decide +kernel
theorem dX2_reckoned_236 : decode cX2_reckoned 236 = .ok (.aload_n 0, 1) := by decide +kernel
theorem dX2_reckoned_237 : decode cX2_reckoned 237 = .ok (.getfield 30, 3) := by decide +kernel
theorem dX2_reckoned_240 : decode cX2_reckoned 240 = .ok (.iload 4, 2) := by decide +kernel
theorem dX2_reckoned_242 : decode cX2_reckoned 242 = .ok (.iconst 1, 1) := by decide +kernel
theorem dX2_reckoned_243 : decode cX2_reckoned 243 = .ok (.isub, 1) := by decide +kernel
theorem dX2_reckoned_244 : decode cX2_reckoned 244 = .ok (.invokestatic 116, 3) := by decide +kernel
theorem dX2_reckoned_247 : decode cX2_reckoned 247 = .ok (.iload 9, 2) := by decide +kernel
theorem dX2_reckoned_249 : decode cX2_reckoned 249 = .ok (.invokevirtual 128, 3) := by decide +kernel
theorem dX2_reckoned_252 : decode cX2_reckoned 252 = .ok (.invokestatic 65, 3) := by decide +kernel
theorem dX2_reckoned_255 : decode cX2_reckoned 255 = .ok (.iinc 6 1, 3) := by decide +kernel
theorem dX2_reckoned_258 : decode cX2_reckoned 258 = .ok (.goto (-244), 3) := by decide +kernel
theorem dX2_reckoned_261 : decode cX2_reckoned 261 = .ok (.aload_n 0, 1) := by decide +kernel
theorem dX2_reckoned_262 : decode cX2_reckoned 262 = .ok (.getfield 37, 3) := by decide +kernel
theorem dX2_reckoned_265 : decode cX2_reckoned 265 = .ok (.ifCond .eq 7, 3) := by decide +kernel
theorem dX2_reckoned_268 : decode cX2_reckoned 268 = .ok (.iconst 0, 1) := by decide +kernel
theorem dX2_reckoned_269 : decode cX2_reckoned 269 = .ok (.goto 14, 3) := by decide +kernel
theorem dX2_reckoned_272 : decode cX2_reckoned 272 = .ok (.aload_n 0, 1) := by decide +kernel
theorem dX2_reckoned_273 : decode cX2_reckoned 273 = .ok (.getfield 30, 3) := by decide +kernel
theorem dX2_reckoned_276 : decode cX2_reckoned 276 = .ok (.iload 4, 2) := by decide +kernel
theorem dX2_reckoned_278 : decode cX2_reckoned 278 = .ok (.iconst 1, 1) := by decide +kernel
theorem dX2_reckoned_279 : decode cX2_reckoned 279 = .ok (.isub, 1) := by decide +kernel
theorem dX2_reckoned_280 : decode cX2_reckoned 280 = .ok (.invokestatic 116, 3) := by decide +kernel
theorem dX2_reckoned_283 : decode cX2_reckoned 283 = .ok (.ireturn, 1) := by decide +kernel
theorem dX2_joined_0 : decode cX2_joined 0 = .ok (.iload_n 3, 1) := by decide +kernel
theorem dX2_joined_1 : decode cX2_joined 1 = .ok (.ifCond .ne 22, 3) := by decide +kernel
theorem dX2_joined_4 : decode cX2_joined 4 = .ok (.iload_n 1, 1) := by decide +kernel
theorem dX2_joined_5 : decode cX2_joined 5 = .ok (.bipush 47, 2) := by decide +kernel
theorem dX2_joined_7 : decode cX2_joined 7 = .ok (.if_icmp .eq 9, 3) := by decide +kernel
theorem dX2_joined_10 : decode cX2_joined 10 = .ok (.iload_n 1, 1) := by decide +kernel
theorem dX2_joined_11 : decode cX2_joined 11 = .ok (.bipush 37, 2) := by decide +kernel
theorem dX2_joined_13 : decode cX2_joined 13 = .ok (.if_icmp .ne 10, 3) := by decide +kernel
theorem dX2_joined_16 : decode cX2_joined 16 = .ok (.aload_n 0, 1) := by decide +kernel
theorem dX2_joined_17 : decode cX2_joined 17 = .ok (.iconst 1, 1) := by decide +kernel
theorem dX2_joined_18 : decode cX2_joined 18 = .ok (.putfield 37, 3) := by decide +kernel
theorem dX2_joined_21 : decode cX2_joined 21 = .ok (.iconst 0, 1) := by decide +kernel
theorem dX2_joined_22 : decode cX2_joined 22 = .ok (.ireturn, 1) := by decide +kernel
theorem dX2_joined_23 : decode cX2_joined 23 = .ok (.iload_n 1, 1) := by decide +kernel
theorem dX2_joined_24 : decode cX2_joined 24 = .ok (.tableswitch 189 37 62 #[177, 189, 189, 189, 189, 161, 153, 189, 157, 189, 165, 189, 189, 189, 189, 189, 189, 189, 189, 189, 189, 189, 189, 120, 142, 131], 120) := by decide +kernel
theorem dX2_joined_144 : decode cX2_joined 144 = .ok (.iload_n 2, 1) := by decide +kernel
theorem dX2_joined_145 : decode cX2_joined 145 = .ok (.iload_n 3, 1) := by decide +kernel
theorem dX2_joined_146 : decode cX2_joined 146 = .ok (.if_icmp .ge 7, 3) := by decide +kernel
theorem dX2_joined_149 : decode cX2_joined 149 = .ok (.iconst 1, 1) := by decide +kernel
theorem dX2_joined_150 : decode cX2_joined 150 = .ok (.goto 4, 3) := by decide +kernel
theorem dX2_joined_153 : decode cX2_joined 153 = .ok (.iconst 0, 1) := by decide +kernel
theorem dX2_joined_154 : decode cX2_joined 154 = .ok (.ireturn, 1) := by decide +kernel
theorem dX2_joined_155 : decode cX2_joined 155 = .ok (.iload_n 2, 1) := by decide +kernel
theorem dX2_joined_156 : decode cX2_joined 156 = .ok (.iload_n 3, 1) := by decide +kernel
theorem dX2_joined_157 : decode cX2_joined 157 = .ok (.if_icmp .le 7, 3) := by decide +kernel
theorem dX2_joined_160 : decode cX2_joined 160 = .ok (.iconst 1, 1) := by decide +kernel
theorem dX2_joined_161 : decode cX2_joined 161 = .ok (.goto 4, 3) := by decide +kernel
theorem dX2_joined_164 : decode cX2_joined 164 = .ok (.iconst 0, 1) := by decide +kernel
theorem dX2_joined_165 : decode cX2_joined 165 = .ok (.ireturn, 1) := by decide +kernel
theorem dX2_joined_166 : decode cX2_joined 166 = .ok (.iload_n 2, 1) := by decide +kernel
theorem dX2_joined_167 : decode cX2_joined 167 = .ok (.iload_n 3, 1) := by decide +kernel
theorem dX2_joined_168 : decode cX2_joined 168 = .ok (.if_icmp .ne 7, 3) := by decide +kernel
theorem dX2_joined_171 : decode cX2_joined 171 = .ok (.iconst 1, 1) := by decide +kernel
theorem dX2_joined_172 : decode cX2_joined 172 = .ok (.goto 4, 3) := by decide +kernel
theorem dX2_joined_175 : decode cX2_joined 175 = .ok (.iconst 0, 1) := by decide +kernel
theorem dX2_joined_176 : decode cX2_joined 176 = .ok (.ireturn, 1) := by decide +kernel
theorem dX2_joined_177 : decode cX2_joined 177 = .ok (.iload_n 2, 1) := by decide +kernel
theorem dX2_joined_178 : decode cX2_joined 178 = .ok (.iload_n 3, 1) := by decide +kernel
theorem dX2_joined_179 : decode cX2_joined 179 = .ok (.iadd, 1) := by decide +kernel
theorem dX2_joined_180 : decode cX2_joined 180 = .ok (.ireturn, 1) := by decide +kernel
theorem dX2_joined_181 : decode cX2_joined 181 = .ok (.iload_n 2, 1) := by decide +kernel
theorem dX2_joined_182 : decode cX2_joined 182 = .ok (.iload_n 3, 1) := by decide +kernel
theorem dX2_joined_183 : decode cX2_joined 183 = .ok (.isub, 1) := by decide +kernel
theorem dX2_joined_184 : decode cX2_joined 184 = .ok (.ireturn, 1) := by decide +kernel
theorem dX2_joined_185 : decode cX2_joined 185 = .ok (.iload_n 2, 1) := by decide +kernel
theorem dX2_joined_186 : decode cX2_joined 186 = .ok (.iload_n 3, 1) := by decide +kernel
theorem dX2_joined_187 : decode cX2_joined 187 = .ok (.imul, 1) := by decide +kernel
theorem dX2_joined_188 : decode cX2_joined 188 = .ok (.ireturn, 1) := by decide +kernel
theorem dX2_joined_189 : decode cX2_joined 189 = .ok (.iload_n 3, 1) := by decide +kernel
theorem dX2_joined_190 : decode cX2_joined 190 = .ok (.ifCond .ne 7, 3) := by decide +kernel
theorem dX2_joined_193 : decode cX2_joined 193 = .ok (.iconst 0, 1) := by decide +kernel
theorem dX2_joined_194 : decode cX2_joined 194 = .ok (.goto 6, 3) := by decide +kernel
theorem dX2_joined_197 : decode cX2_joined 197 = .ok (.iload_n 2, 1) := by decide +kernel
theorem dX2_joined_198 : decode cX2_joined 198 = .ok (.iload_n 3, 1) := by decide +kernel
theorem dX2_joined_199 : decode cX2_joined 199 = .ok (.idiv, 1) := by decide +kernel
theorem dX2_joined_200 : decode cX2_joined 200 = .ok (.ireturn, 1) := by decide +kernel
theorem dX2_joined_201 : decode cX2_joined 201 = .ok (.iload_n 3, 1) := by decide +kernel
theorem dX2_joined_202 : decode cX2_joined 202 = .ok (.ifCond .ne 7, 3) := by decide +kernel
theorem dX2_joined_205 : decode cX2_joined 205 = .ok (.iconst 0, 1) := by decide +kernel
theorem dX2_joined_206 : decode cX2_joined 206 = .ok (.goto 6, 3) := by decide +kernel
theorem dX2_joined_209 : decode cX2_joined 209 = .ok (.iload_n 2, 1) := by decide +kernel
theorem dX2_joined_210 : decode cX2_joined 210 = .ok (.iload_n 3, 1) := by decide +kernel
theorem dX2_joined_211 : decode cX2_joined 211 = .ok (.irem, 1) := by decide +kernel
theorem dX2_joined_212 : decode cX2_joined 212 = .ok (.ireturn, 1) := by decide +kernel
theorem dX2_joined_213 : decode cX2_joined 213 = .ok (.iload_n 2, 1) := by decide +kernel
theorem dX2_joined_214 : decode cX2_joined 214 = .ok (.ireturn, 1) := by decide +kernel
theorem dX3_init_0 : decode cX3_init 0 = .ok (.aload_n 0, 1) := by decide +kernel
theorem dX3_init_1 : decode cX3_init 1 = .ok (.invokespecial 3, 3) := by decide +kernel
theorem dX3_init_4 : decode cX3_init 4 = .ok (.aload_n 0, 1) := by decide +kernel
theorem dX3_init_5 : decode cX3_init 5 = .ok (.bipush 20, 2) := by decide +kernel
theorem dX3_init_7 : decode cX3_init 7 = .ok (.newarray .int, 2) := by decide +kernel
theorem dX3_init_9 : decode cX3_init 9 = .ok (.putfield 11, 3) := by decide +kernel
theorem dX3_init_12 : decode cX3_init 12 = .ok (.aload_n 0, 1) := by decide +kernel
theorem dX3_init_13 : decode cX3_init 13 = .ok (.bipush 20, 2) := by decide +kernel
theorem dX3_init_15 : decode cX3_init 15 = .ok (.newarray .int, 2) := by decide +kernel
theorem dX3_init_17 : decode cX3_init 17 = .ok (.putfield 15, 3) := by decide +kernel
theorem dX3_init_20 : decode cX3_init 20 = .ok (.aload_n 0, 1) := by decide +kernel
theorem dX3_init_21 : decode cX3_init 21 = .ok (.bipush 20, 2) := by decide +kernel
theorem dX3_init_23 : decode cX3_init 23 = .ok (.newarray .int, 2) := by decide +kernel
theorem dX3_init_25 : decode cX3_init 25 = .ok (.putfield 18, 3) := by decide +kernel
theorem dX3_init_28 : decode cX3_init 28 = .ok (.aload_n 0, 1) := by decide +kernel
theorem dX3_init_29 : decode cX3_init 29 = .ok (.iconst 0, 1) := by decide +kernel
theorem dX3_init_30 : decode cX3_init 30 = .ok (.putfield 21, 3) := by decide +kernel
theorem dX3_init_33 : decode cX3_init 33 = .ok (.return_, 1) := by decide +kernel
set_option maxRecDepth 20000 in
theorem ggX3_read_X3_line : GoodIn wsX3_read wsX3_line := goodIn_r _ [6, 1, 7, 8, 9, 10, 11, 12, 13, 14, 15, 16, 17, 18, 19, 20, 21, 22, 23, 24, 25, 26, 27, 28, 29, 30, 31, 32, 33, 34, 35, 36, 37, 38, 39, 40, 41, 42, 43, 44, 45, 46, 47, 48, 49, 50, 51, 52, 53, 54, 5, 55, 56, 57, 58, 59, 60, 61, 62, 63, 64, 65, 66, 67, 68, 69, 70, 80, 81, 82, 83, 84, 85, 86, 87, 88, 89, 90, 91, 92, 93] (by decide +kernel) (by decide +kernel)
set_option maxRecDepth 20000 in
theorem gX3_read_X3_line : GoodIn wsX3_read (wsV RX3 25 RX3 yX3_line wsX3_line) := goodIn_app (goodIn_of _ (by decide +kernel)) ggX3_read_X3_line
set_option maxRecDepth 20000 in
theorem ggX3_read_X7_goesOn : GoodIn wsX3_read wsX7_goesOn := goodIn_r _ [74, 75, 46, 47, 13, 48, 34, 63, 11, 12, 14, 15, 16, 17, 18, 19, 20, 76, 77, 78, 79, 67, 27, 28, 29, 30, 31, 32, 33, 35, 68, 50, 51, 52, 84, 85, 86, 87, 88, 89] (by decide +kernel) (by decide +kernel)
set_option maxRecDepth 20000 in
theorem gX3_read_X7_goesOn : GoodIn wsX3_read (wsV RX3 29 RX7 yX7_goesOn wsX7_goesOn) := goodIn_app (goodIn_of _ (by decide +kernel)) ggX3_read_X7_goesOn
theorem dX3_read_0 : decode cX3_read 0 = .ok (.aload_n 0, 1) := by decide +kernel
theorem dX3_read_1 : decode cX3_read 1 = .ok (.iconst 0, 1) := by decide +kernel
theorem dX3_read_2 : decode cX3_read 2 = .ok (.putfield 21, 3) := by decide +kernel
theorem dX3_read_5 : decode cX3_read 5 = .ok (.iconst 1, 1) := by decide +kernel
theorem dX3_read_6 : decode cX3_read 6 = .ok (.istore_n 3, 1) := by decide +kernel
theorem dX3_read_7 : decode cX3_read 7 = .ok (.iconst 0, 1) := by decide +kernel
theorem dX3_read_8 : decode cX3_read 8 = .ok (.istore 4, 2) := by decide +kernel
theorem dX3_read_10 : decode cX3_read 10 = .ok (.iload_n 3, 1) := by decide +kernel
theorem dX3_read_11 : decode cX3_read 11 = .ok (.ifCond .eq 27, 3) := by decide +kernel
theorem dX3_read_14 : decode cX3_read 14 = .ok (.iload 4, 2) := by decide +kernel
theorem dX3_read_16 : decode cX3_read 16 = .ok (.bipush 120, 2) := by decide +kernel
theorem dX3_read_18 : decode cX3_read 18 = .ok (.if_icmp .ge 20, 3) := by decide +kernel
theorem dX3_read_21 : decode cX3_read 21 = .ok (.aload_n 0, 1) := by decide +kernel
theorem dX3_read_22 : decode cX3_read 22 = .ok (.aload_n 1, 1) := by decide +kernel
theorem dX3_read_23 : decode cX3_read 23 = .ok (.aload_n 2, 1) := by decide +kernel
theorem dX3_read_24 : decode cX3_read 24 = .ok (.invokevirtual 25, 3) := by decide +kernel
theorem dX3_read_27 : decode cX3_read 27 = .ok (.aload_n 1, 1) := by decide +kernel
theorem dX3_read_28 : decode cX3_read 28 = .ok (.invokevirtual 29, 3) := by decide +kernel
theorem dX3_read_31 : decode cX3_read 31 = .ok (.istore_n 3, 1) := by decide +kernel
theorem dX3_read_32 : decode cX3_read 32 = .ok (.iinc 4 1, 3) := by decide +kernel
theorem dX3_read_35 : decode cX3_read 35 = .ok (.goto (-25), 3) := by decide +kernel
theorem dX3_read_38 : decode cX3_read 38 = .ok (.return_, 1) := by decide +kernel
set_option maxRecDepth 20000 in
theorem ggX3_line_X7_look : GoodIn wsX3_line wsX7_look := goodIn_r _ [9, 10, 11, 12, 13, 14, 15, 71, 72, 73, 74, 75, 76] (by decide +kernel) (by decide +kernel)
set_option maxRecDepth 20000 in
theorem gX3_line_X7_look : GoodIn wsX3_line (wsV RX3 35 RX7 yX7_look wsX7_look) := goodIn_app (goodIn_of _ (by decide +kernel)) ggX3_line_X7_look
set_option maxRecDepth 20000 in
theorem ggX3_line_X7_placeOf : GoodIn wsX3_line wsX7_placeOf := goodIn_r _ [18, 19, 14, 20] (by decide +kernel) (by decide +kernel)
set_option maxRecDepth 20000 in
theorem gX3_line_X7_placeOf : GoodIn wsX3_line (va_wsS RX3 39 yX7_placeOf wsX7_placeOf) := goodIn_app (goodIn_of _ (by decide +kernel)) ggX3_line_X7_placeOf
set_option maxRecDepth 20000 in
theorem ggX3_line_X7_fail : GoodIn wsX3_line wsX7_fail := goodIn_r _ [24, 10, 25, 26, 27, 8, 28, 29, 30, 71, 72, 73, 74, 75, 76] (by decide +kernel) (by decide +kernel)
set_option maxRecDepth 20000 in
theorem gX3_line_X7_fail : GoodIn wsX3_line (wsV RX3 43 RX7 yX7_fail wsX7_fail) := goodIn_app (goodIn_of _ (by decide +kernel)) ggX3_line_X7_fail
set_option maxRecDepth 20000 in
theorem ggX3_line_X1_isTold : GoodIn wsX3_line wsX1_isTold := goodIn_r _ [35, 36, 19, 14, 20, 37, 38, 39, 77, 78, 79, 80] (by decide +kernel) (by decide +kernel)
set_option maxRecDepth 20000 in
theorem gX3_line_X1_isTold : GoodIn wsX3_line (wsV RX3 47 RX1 yX1_isTold wsX1_isTold) := goodIn_app (goodIn_of _ (by decide +kernel)) ggX3_line_X1_isTold
set_option maxRecDepth 20000 in
theorem ggX3_line_X7_isFine : GoodIn wsX3_line wsX7_isFine := goodIn_r _ [43, 29, 71, 72, 73, 74, 75, 76] (by decide +kernel) (by decide +kernel)
set_option maxRecDepth 20000 in
theorem gX3_line_X7_isFine : GoodIn wsX3_line (wsV RX3 53 RX7 yX7_isFine wsX7_isFine) := goodIn_app (goodIn_of _ (by decide +kernel)) ggX3_line_X7_isFine
set_option maxRecDepth 20000 in
theorem ggX3_line_X7_step : GoodIn wsX3_line wsX7_step := goodIn_r _ [47, 10, 71, 72, 73, 74, 75, 76] (by decide +kernel) (by decide +kernel)
set_option maxRecDepth 20000 in
theorem gX3_line_X7_step : GoodIn wsX3_line (wsV RX3 56 RX7 yX7_step wsX7_step) := goodIn_app (goodIn_of _ (by decide +kernel)) ggX3_line_X7_step
set_option maxRecDepth 20000 in
theorem ggX3_line_X3_isSign : GoodIn wsX3_line wsX3_isSign := goodIn_r _ [51] (by decide +kernel) (by decide +kernel)
set_option maxRecDepth 20000 in
theorem gX3_line_X3_isSign : GoodIn wsX3_line (va_wsS RX3 59 yX3_isSign wsX3_isSign) := goodIn_app (goodIn_of _ (by decide +kernel)) ggX3_line_X3_isSign
set_option maxRecDepth 20000 in
theorem ggX3_line_X3_other : GoodIn wsX3_line wsX3_other := goodIn_r _ [54, 5, 6, 7, 8, 9, 10, 11, 12, 13, 14, 15, 16, 17, 18, 19, 20, 21, 22, 23, 24, 25, 26, 27, 28, 29, 30, 31, 32, 33, 34, 35, 36, 37, 38, 39, 44, 45, 46, 47, 71, 72, 73, 74, 75, 76, 77, 78, 79, 80] (by decide +kernel) (by decide +kernel)
set_option maxRecDepth 20000 in
theorem gX3_line_X3_other : GoodIn wsX3_line (va_wsS RX3 62 yX3_other wsX3_other) := goodIn_app (goodIn_of _ (by decide +kernel)) ggX3_line_X3_other
set_option maxRecDepth 20000 in
theorem ggX3_line_X7_number : GoodIn wsX3_line wsX7_number := goodIn_r _ [58, 59, 6, 7, 8, 9, 10, 11, 12, 13, 14, 15, 60, 61, 62, 19, 20, 63, 22, 23, 24, 25, 26, 27, 28, 29, 30, 64, 45, 46, 47, 71, 72, 73, 74, 75, 76] (by decide +kernel) (by decide +kernel)
set_option maxRecDepth 20000 in
theorem gX3_line_X7_number : GoodIn wsX3_line (wsV RX3 66 RX7 yX7_number wsX7_number) := goodIn_app (goodIn_of _ (by decide +kernel)) ggX3_line_X7_number
set_option maxRecDepth 20000 in
theorem ggX3_line_X9_put : GoodIn wsX3_line wsX9_put := goodIn_r _ [66] (by decide +kernel) (by decide +kernel)
set_option maxRecDepth 20000 in
theorem gX3_line_X9_put_n69 : GoodIn wsX3_line (wsX9_put) := ggX3_line_X9_put
theorem dX3_line_0 : decode cX3_line 0 = .ok (.aload_n 1, 1) := by decide +kernel
theorem dX3_line_1 : decode cX3_line 1 = .ok (.invokevirtual 35, 3) := by decide +kernel
theorem dX3_line_4 : decode cX3_line 4 = .ok (.invokestatic 39, 3) := by decide +kernel
theorem dX3_line_7 : decode cX3_line 7 = .ok (.istore_n 3, 1) := by decide +kernel
theorem dX3_line_8 : decode cX3_line 8 = .ok (.iload_n 3, 1) := by decide +kernel
theorem dX3_line_9 : decode cX3_line 9 = .ok (.iconst (-1), 1) := by decide +kernel
theorem dX3_line_10 : decode cX3_line 10 = .ok (.if_icmp .ne 11, 3) := by decide +kernel
theorem dX3_line_13 : decode cX3_line 13 = .ok (.aload_n 1, 1) := by decide +kernel
theorem dX3_line_14 : decode cX3_line 14 = .ok (.iconst 1, 1) := by decide +kernel
theorem dX3_line_15 : decode cX3_line 15 = .ok (.invokevirtual 43, 3) := by decide +kernel
theorem dX3_line_18 : decode cX3_line 18 = .ok (.goto 34, 3) := by decide +kernel
theorem dX3_line_21 : decode cX3_line 21 = .ok (.aload_n 0, 1) := by decide +kernel
theorem dX3_line_22 : decode cX3_line 22 = .ok (.getfield 21, 3) := by decide +kernel
theorem dX3_line_25 : decode cX3_line 25 = .ok (.bipush 20, 2) := by decide +kernel
theorem dX3_line_27 : decode cX3_line 27 = .ok (.if_icmp .lt 11, 3) := by decide +kernel
theorem dX3_line_30 : decode cX3_line 30 = .ok (.aload_n 1, 1) := by decide +kernel
theorem dX3_line_31 : decode cX3_line 31 = .ok (.iconst 4, 1) := by decide +kernel
theorem dX3_line_32 : decode cX3_line 32 = .ok (.invokevirtual 43, 3) := by decide +kernel
theorem dX3_line_35 : decode cX3_line 35 = .ok (.goto 17, 3) := by decide +kernel
theorem dX3_line_38 : decode cX3_line 38 = .ok (.aload_n 2, 1) := by decide +kernel
theorem dX3_line_39 : decode cX3_line 39 = .ok (.iload_n 3, 1) := by decide +kernel
theorem dX3_line_40 : decode cX3_line 40 = .ok (.invokevirtual 47, 3) := by decide +kernel
theorem dX3_line_43 : decode cX3_line 43 = .ok (.ifCond .ne 9, 3) := by decide +kernel
theorem dX3_line_46 : decode cX3_line 46 = .ok (.aload_n 1, 1) := by decide +kernel
theorem dX3_line_47 : decode cX3_line 47 = .ok (.bipush 7, 2) := by decide +kernel
theorem dX3_line_49 : decode cX3_line 49 = .ok (.invokevirtual 43, 3) := by decide +kernel
theorem dX3_line_52 : decode cX3_line 52 = .ok (.aload_n 1, 1) := by decide +kernel
theorem dX3_line_53 : decode cX3_line 53 = .ok (.invokevirtual 53, 3) := by decide +kernel
theorem dX3_line_56 : decode cX3_line 56 = .ok (.ifCond .ne 4, 3) := by decide +kernel
theorem dX3_line_59 : decode cX3_line 59 = .ok (.return_, 1) := by decide +kernel
theorem dX3_line_60 : decode cX3_line 60 = .ok (.aload_n 1, 1) := by decide +kernel
theorem dX3_line_61 : decode cX3_line 61 = .ok (.invokevirtual 56, 3) := by decide +kernel
theorem dX3_line_64 : decode cX3_line 64 = .ok (.aload_n 1, 1) := by decide +kernel
theorem dX3_line_65 : decode cX3_line 65 = .ok (.invokevirtual 35, 3) := by decide +kernel
theorem dX3_line_68 : decode cX3_line 68 = .ok (.istore 4, 2) := by decide +kernel
theorem dX3_line_70 : decode cX3_line 70 = .ok (.iload 4, 2) := by decide +kernel
theorem dX3_line_72 : decode cX3_line 72 = .ok (.invokestatic 59, 3) := by decide +kernel
theorem dX3_line_75 : decode cX3_line 75 = .ok (.ifCond .ne 9, 3) := by decide +kernel
theorem dX3_line_78 : decode cX3_line 78 = .ok (.aload_n 1, 1) := by decide +kernel
theorem dX3_line_79 : decode cX3_line 79 = .ok (.iconst 1, 1) := by decide +kernel
theorem dX3_line_80 : decode cX3_line 80 = .ok (.invokevirtual 43, 3) := by decide +kernel
theorem dX3_line_83 : decode cX3_line 83 = .ok (.return_, 1) := by decide +kernel
theorem dX3_line_84 : decode cX3_line 84 = .ok (.aload_n 1, 1) := by decide +kernel
theorem dX3_line_85 : decode cX3_line 85 = .ok (.invokevirtual 56, 3) := by decide +kernel
theorem dX3_line_88 : decode cX3_line 88 = .ok (.iload 4, 2) := by decide +kernel
theorem dX3_line_90 : decode cX3_line 90 = .ok (.bipush 38, 2) := by decide +kernel
theorem dX3_line_92 : decode cX3_line 92 = .ok (.if_icmp .eq 10, 3) := by decide +kernel
theorem dX3_line_95 : decode cX3_line 95 = .ok (.iload 4, 2) := by decide +kernel
theorem dX3_line_97 : decode cX3_line 97 = .ok (.bipush 47, 2) := by decide +kernel
theorem dX3_line_99 : decode cX3_line 99 = .ok (.if_icmp .ne 12, 3) := by decide +kernel
theorem dX3_line_102 : decode cX3_line 102 = .ok (.aload_n 1, 1) := by decide +kernel
theorem dX3_line_103 : decode cX3_line 103 = .ok (.aload_n 2, 1) := by decide +kernel
theorem dX3_line_104 : decode cX3_line 104 = .ok (.iload_n 3, 1) := by decide +kernel
theorem dX3_line_105 : decode cX3_line 105 = .ok (.invokestatic 62, 3) := by decide +kernel
theorem dX3_line_108 : decode cX3_line 108 = .ok (.goto 19, 3) := by decide +kernel
theorem dX3_line_111 : decode cX3_line 111 = .ok (.aload_n 1, 1) := by decide +kernel
theorem dX3_line_112 : decode cX3_line 112 = .ok (.iload 4, 2) := by decide +kernel
theorem dX3_line_114 : decode cX3_line 114 = .ok (.bipush 61, 2) := by decide +kernel
theorem dX3_line_116 : decode cX3_line 116 = .ok (.if_icmp .ne 7, 3) := by decide +kernel
theorem dX3_line_119 : decode cX3_line 119 = .ok (.iconst 3, 1) := by decide +kernel
theorem dX3_line_120 : decode cX3_line 120 = .ok (.goto 4, 3) := by decide +kernel
theorem dX3_line_123 : decode cX3_line 123 = .ok (.iconst 2, 1) := by decide +kernel
theorem dX3_line_124 : decode cX3_line 124 = .ok (.invokevirtual 66, 3) := by decide +kernel
theorem dX3_line_127 : decode cX3_line 127 = .ok (.istore 5, 2) := by decide +kernel
theorem dX3_line_129 : decode cX3_line 129 = .ok (.aload_n 0, 1) := by decide +kernel
theorem dX3_line_130 : decode cX3_line 130 = .ok (.getfield 11, 3) := by decide +kernel
theorem dX3_line_133 : decode cX3_line 133 = .ok (.aload_n 0, 1) := by decide +kernel
theorem dX3_line_134 : decode cX3_line 134 = .ok (.getfield 21, 3) := by decide +kernel
theorem dX3_line_137 : decode cX3_line 137 = .ok (.iload_n 3, 1) := by decide +kernel
theorem dX3_line_138 : decode cX3_line 138 = .ok (.invokestatic 69, 3) := by decide +kernel
theorem dX3_line_141 : decode cX3_line 141 = .ok (.aload_n 0, 1) := by decide +kernel
theorem dX3_line_142 : decode cX3_line 142 = .ok (.getfield 15, 3) := by decide +kernel
theorem dX3_line_145 : decode cX3_line 145 = .ok (.aload_n 0, 1) := by decide +kernel
theorem dX3_line_146 : decode cX3_line 146 = .ok (.getfield 21, 3) := by decide +kernel
theorem dX3_line_149 : decode cX3_line 149 = .ok (.iload 4, 2) := by decide +kernel
theorem dX3_line_151 : decode cX3_line 151 = .ok (.invokestatic 69, 3) := by decide +kernel
theorem dX3_line_154 : decode cX3_line 154 = .ok (.aload_n 0, 1) := by decide +kernel
theorem dX3_line_155 : decode cX3_line 155 = .ok (.getfield 18, 3) := by decide +kernel
theorem dX3_line_158 : decode cX3_line 158 = .ok (.aload_n 0, 1) := by decide +kernel
theorem dX3_line_159 : decode cX3_line 159 = .ok (.getfield 21, 3) := by decide +kernel
theorem dX3_line_162 : decode cX3_line 162 = .ok (.iload 5, 2) := by decide +kernel
theorem dX3_line_164 : decode cX3_line 164 = .ok (.invokestatic 69, 3) := by decide +kernel
theorem dX3_line_167 : decode cX3_line 167 = .ok (.aload_n 0, 1) := by decide +kernel
theorem dX3_line_168 : decode cX3_line 168 = .ok (.dup, 1) := by decide +kernel
theorem dX3_line_169 : decode cX3_line 169 = .ok (.getfield 21, 3) := by decide +kernel
theorem dX3_line_172 : decode cX3_line 172 = .ok (.iconst 1, 1) := by decide +kernel
theorem dX3_line_173 : decode cX3_line 173 = .ok (.iadd, 1) := by decide +kernel
theorem dX3_line_174 : decode cX3_line 174 = .ok (.putfield 21, 3) := by decide +kernel
theorem dX3_line_177 : decode cX3_line 177 = .ok (.return_, 1) := by decide +kernel
theorem dX3_isSign_0 : decode cX3_isSign 0 = .ok (.iload_n 0, 1) := by decide +kernel
theorem dX3_isSign_1 : decode cX3_isSign 1 = .ok (.bipush 43, 2) := by decide +kernel
theorem dX3_isSign_3 : decode cX3_isSign 3 = .ok (.if_icmp .eq 27, 3) := by decide +kernel
theorem dX3_isSign_6 : decode cX3_isSign 6 = .ok (.iload_n 0, 1) := by decide +kernel
theorem dX3_isSign_7 : decode cX3_isSign 7 = .ok (.bipush 45, 2) := by decide +kernel
theorem dX3_isSign_9 : decode cX3_isSign 9 = .ok (.if_icmp .eq 21, 3) := by decide +kernel
theorem dX3_isSign_12 : decode cX3_isSign 12 = .ok (.iload_n 0, 1) := by decide +kernel
theorem dX3_isSign_13 : decode cX3_isSign 13 = .ok (.bipush 61, 2) := by decide +kernel
theorem dX3_isSign_15 : decode cX3_isSign 15 = .ok (.if_icmp .eq 15, 3) := by decide +kernel
theorem dX3_isSign_18 : decode cX3_isSign 18 = .ok (.iload_n 0, 1) := by decide +kernel
theorem dX3_isSign_19 : decode cX3_isSign 19 = .ok (.bipush 38, 2) := by decide +kernel
theorem dX3_isSign_21 : decode cX3_isSign 21 = .ok (.if_icmp .eq 9, 3) := by decide +kernel
theorem dX3_isSign_24 : decode cX3_isSign 24 = .ok (.iload_n 0, 1) := by decide +kernel
theorem dX3_isSign_25 : decode cX3_isSign 25 = .ok (.bipush 47, 2) := by decide +kernel
theorem dX3_isSign_27 : decode cX3_isSign 27 = .ok (.if_icmp .ne 7, 3) := by decide +kernel
theorem dX3_isSign_30 : decode cX3_isSign 30 = .ok (.iconst 1, 1) := by decide +kernel
theorem dX3_isSign_31 : decode cX3_isSign 31 = .ok (.goto 4, 3) := by decide +kernel
theorem dX3_isSign_34 : decode cX3_isSign 34 = .ok (.iconst 0, 1) := by decide +kernel
theorem dX3_isSign_35 : decode cX3_isSign 35 = .ok (.ireturn, 1) := by decide +kernel
set_option maxRecDepth 20000 in
theorem ggX3_other_X7_look : GoodIn wsX3_other wsX7_look := goodIn_r _ [5, 6, 7, 8, 9, 10, 11, 40, 41, 42, 43, 44, 45] (by decide +kernel) (by decide +kernel)
set_option maxRecDepth 20000 in
theorem gX3_other_X7_look : GoodIn wsX3_other (wsV RX3 35 RX7 yX7_look wsX7_look) := goodIn_app (goodIn_of _ (by decide +kernel)) ggX3_other_X7_look
set_option maxRecDepth 20000 in
theorem ggX3_other_X7_placeOf : GoodIn wsX3_other wsX7_placeOf := goodIn_r _ [14, 15, 10, 16] (by decide +kernel) (by decide +kernel)
set_option maxRecDepth 20000 in
theorem gX3_other_X7_placeOf : GoodIn wsX3_other (va_wsS RX3 39 yX7_placeOf wsX7_placeOf) := goodIn_app (goodIn_of _ (by decide +kernel)) ggX3_other_X7_placeOf
set_option maxRecDepth 20000 in
theorem ggX3_other_X7_fail : GoodIn wsX3_other wsX7_fail := goodIn_r _ [20, 6, 21, 22, 23, 4, 24, 25, 26, 40, 41, 42, 43, 44, 45] (by decide +kernel) (by decide +kernel)
set_option maxRecDepth 20000 in
theorem gX3_other_X7_fail : GoodIn wsX3_other (wsV RX3 43 RX7 yX7_fail wsX7_fail) := goodIn_app (goodIn_of _ (by decide +kernel)) ggX3_other_X7_fail
set_option maxRecDepth 20000 in
theorem ggX3_other_X1_isTold : GoodIn wsX3_other wsX1_isTold := goodIn_r _ [31, 32, 15, 10, 16, 33, 34, 35, 46, 47, 48, 49] (by decide +kernel) (by decide +kernel)
set_option maxRecDepth 20000 in
theorem gX3_other_X1_isTold : GoodIn wsX3_other (wsV RX3 47 RX1 yX1_isTold wsX1_isTold) := goodIn_app (goodIn_of _ (by decide +kernel)) ggX3_other_X1_isTold
set_option maxRecDepth 20000 in
theorem ggX3_other_X7_step : GoodIn wsX3_other wsX7_step := goodIn_r _ [39, 6, 40, 41, 42, 43, 44, 45] (by decide +kernel) (by decide +kernel)
set_option maxRecDepth 20000 in
theorem gX3_other_X7_step : GoodIn wsX3_other (wsV RX3 56 RX7 yX7_step wsX7_step) := goodIn_app (goodIn_of _ (by decide +kernel)) ggX3_other_X7_step
theorem dX3_other_0 : decode cX3_other 0 = .ok (.aload_n 0, 1) := by decide +kernel
theorem dX3_other_1 : decode cX3_other 1 = .ok (.invokevirtual 35, 3) := by decide +kernel
theorem dX3_other_4 : decode cX3_other 4 = .ok (.invokestatic 39, 3) := by decide +kernel
theorem dX3_other_7 : decode cX3_other 7 = .ok (.istore_n 3, 1) := by decide +kernel
theorem dX3_other_8 : decode cX3_other 8 = .ok (.iload_n 3, 1) := by decide +kernel
theorem dX3_other_9 : decode cX3_other 9 = .ok (.iconst (-1), 1) := by decide +kernel
theorem dX3_other_10 : decode cX3_other 10 = .ok (.if_icmp .ne 11, 3) := by decide +kernel
theorem dX3_other_13 : decode cX3_other 13 = .ok (.aload_n 0, 1) := by decide +kernel
theorem dX3_other_14 : decode cX3_other 14 = .ok (.iconst 1, 1) := by decide +kernel
theorem dX3_other_15 : decode cX3_other 15 = .ok (.invokevirtual 43, 3) := by decide +kernel
theorem dX3_other_18 : decode cX3_other 18 = .ok (.goto 38, 3) := by decide +kernel
theorem dX3_other_21 : decode cX3_other 21 = .ok (.iload_n 3, 1) := by decide +kernel
theorem dX3_other_22 : decode cX3_other 22 = .ok (.iload_n 2, 1) := by decide +kernel
theorem dX3_other_23 : decode cX3_other 23 = .ok (.if_icmp .ne 12, 3) := by decide +kernel
theorem dX3_other_26 : decode cX3_other 26 = .ok (.aload_n 0, 1) := by decide +kernel
theorem dX3_other_27 : decode cX3_other 27 = .ok (.bipush 6, 2) := by decide +kernel
theorem dX3_other_29 : decode cX3_other 29 = .ok (.invokevirtual 43, 3) := by decide +kernel
theorem dX3_other_32 : decode cX3_other 32 = .ok (.goto 24, 3) := by decide +kernel
theorem dX3_other_35 : decode cX3_other 35 = .ok (.aload_n 1, 1) := by decide +kernel
theorem dX3_other_36 : decode cX3_other 36 = .ok (.iload_n 3, 1) := by decide +kernel
theorem dX3_other_37 : decode cX3_other 37 = .ok (.invokevirtual 47, 3) := by decide +kernel
theorem dX3_other_40 : decode cX3_other 40 = .ok (.ifCond .ne 12, 3) := by decide +kernel
theorem dX3_other_43 : decode cX3_other 43 = .ok (.aload_n 0, 1) := by decide +kernel
theorem dX3_other_44 : decode cX3_other 44 = .ok (.bipush 7, 2) := by decide +kernel
theorem dX3_other_46 : decode cX3_other 46 = .ok (.invokevirtual 43, 3) := by decide +kernel
theorem dX3_other_49 : decode cX3_other 49 = .ok (.goto 7, 3) := by decide +kernel
theorem dX3_other_52 : decode cX3_other 52 = .ok (.aload_n 0, 1) := by decide +kernel
theorem dX3_other_53 : decode cX3_other 53 = .ok (.invokevirtual 56, 3) := by decide +kernel
theorem dX3_other_56 : decode cX3_other 56 = .ok (.iload_n 3, 1) := by decide +kernel
theorem dX3_other_57 : decode cX3_other 57 = .ok (.ireturn, 1) := by decide +kernel
set_option maxRecDepth 20000 in
theorem ggX3_grant_X9_at : GoodIn wsX3_grant wsX9_at := goodIn_r _ [9] (by decide +kernel) (by decide +kernel)
set_option maxRecDepth 20000 in
theorem gX3_grant_X9_at_n73 : GoodIn wsX3_grant (wsX9_at) := ggX3_grant_X9_at
set_option maxRecDepth 20000 in
theorem ggX3_grant_X9_clamp : GoodIn wsX3_grant wsX9_clamp := goodIn_r _ [11, 12, 13, 14, 15, 16, 17, 18] (by decide +kernel) (by decide +kernel)
set_option maxRecDepth 20000 in
theorem gX3_grant_X9_clamp_n82 : GoodIn wsX3_grant (wsX9_clamp) := ggX3_grant_X9_clamp
set_option maxRecDepth 20000 in
theorem ggX3_grant_X9_put : GoodIn wsX3_grant wsX9_put := goodIn_r _ [20] (by decide +kernel) (by decide +kernel)
set_option maxRecDepth 20000 in
theorem gX3_grant_X9_put_n69 : GoodIn wsX3_grant (wsX9_put) := ggX3_grant_X9_put
set_option maxRecDepth 20000 in
theorem ggX3_grant_X1_join : GoodIn wsX3_grant wsX1_join := goodIn_r _ [25, 26, 7, 8, 9, 19, 20, 45, 46, 47, 48] (by decide +kernel) (by decide +kernel)
set_option maxRecDepth 20000 in
theorem gX3_grant_X1_join : GoodIn wsX3_grant (wsV RX3 89 RX1 yX1_join wsX1_join) := goodIn_app (goodIn_of _ (by decide +kernel)) ggX3_grant_X1_join
set_option maxRecDepth 20000 in
theorem ggX3_grant_X1_part : GoodIn wsX3_grant wsX1_part := goodIn_r _ [30, 26, 7, 8, 9, 19, 20, 45, 46, 47, 48] (by decide +kernel) (by decide +kernel)
set_option maxRecDepth 20000 in
theorem gX3_grant_X1_part : GoodIn wsX3_grant (wsV RX3 93 RX1 yX1_part wsX1_part) := goodIn_app (goodIn_of _ (by decide +kernel)) ggX3_grant_X1_part
theorem dX3_grant_0 : decode cX3_grant 0 = .ok (.iconst 0, 1) := by decide +kernel
theorem dX3_grant_1 : decode cX3_grant 1 = .ok (.istore_n 3, 1) := by decide +kernel
theorem dX3_grant_2 : decode cX3_grant 2 = .ok (.iload_n 3, 1) := by decide +kernel
theorem dX3_grant_3 : decode cX3_grant 3 = .ok (.aload_n 0, 1) := by decide +kernel
theorem dX3_grant_4 : decode cX3_grant 4 = .ok (.getfield 21, 3) := by decide +kernel
theorem dX3_grant_7 : decode cX3_grant 7 = .ok (.if_icmp .ge 170, 3) := by decide +kernel
theorem dX3_grant_10 : decode cX3_grant 10 = .ok (.aload_n 0, 1) := by decide +kernel
theorem dX3_grant_11 : decode cX3_grant 11 = .ok (.getfield 11, 3) := by decide +kernel
theorem dX3_grant_14 : decode cX3_grant 14 = .ok (.iload_n 3, 1) := by decide +kernel
theorem dX3_grant_15 : decode cX3_grant 15 = .ok (.invokestatic 73, 3) := by decide +kernel
theorem dX3_grant_18 : decode cX3_grant 18 = .ok (.istore 4, 2) := by decide +kernel
theorem dX3_grant_20 : decode cX3_grant 20 = .ok (.aload_n 0, 1) := by decide +kernel
