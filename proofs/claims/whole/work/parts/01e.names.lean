theorem dX10_constable_41 : decode cX10_constable 41 = .ok (.getfield 7, 3) := by decide +kernel
theorem dX10_constable_44 : decode cX10_constable 44 = .ok (.bipush 64, 2) := by decide +kernel
theorem dX10_constable_46 : decode cX10_constable 46 = .ok (.iload_n 1, 1) := by decide +kernel
theorem dX10_constable_47 : decode cX10_constable 47 = .ok (.iadd, 1) := by decide +kernel
theorem dX10_constable_48 : decode cX10_constable 48 = .ok (.iconst 0, 1) := by decide +kernel
theorem dX10_constable_49 : decode cX10_constable 49 = .ok (.iastore, 1) := by decide +kernel
theorem dX10_constable_50 : decode cX10_constable 50 = .ok (.iconst 1, 1) := by decide +kernel
theorem dX10_constable_51 : decode cX10_constable 51 = .ok (.ireturn, 1) := by decide +kernel
theorem dX10_types_0 : decode cX10_types 0 = .ok (.iconst 3, 1) := by decide +kernel
theorem dX10_types_1 : decode cX10_types 1 = .ok (.istore_n 2, 1) := by decide +kernel
theorem dX10_types_2 : decode cX10_types 2 = .ok (.iload_n 2, 1) := by decide +kernel
theorem dX10_types_3 : decode cX10_types 3 = .ok (.ifCond .lt 35, 3) := by decide +kernel
theorem dX10_types_6 : decode cX10_types 6 = .ok (.aload_n 0, 1) := by decide +kernel
theorem dX10_types_7 : decode cX10_types 7 = .ok (.getfield 28, 3) := by decide +kernel
theorem dX10_types_10 : decode cX10_types 10 = .ok (.aload_n 0, 1) := by decide +kernel
theorem dX10_types_11 : decode cX10_types 11 = .ok (.getfield 131, 3) := by decide +kernel
theorem dX10_types_14 : decode cX10_types 14 = .ok (.iload_n 1, 1) := by decide +kernel
theorem dX10_types_15 : decode cX10_types 15 = .ok (.bipush 8, 2) := by decide +kernel
theorem dX10_types_17 : decode cX10_types 17 = .ok (.iload_n 2, 1) := by decide +kernel
theorem dX10_types_18 : decode cX10_types 18 = .ok (.imul, 1) := by decide +kernel
theorem dX10_types_19 : decode cX10_types 19 = .ok (.ishr, 1) := by decide +kernel
theorem dX10_types_20 : decode cX10_types 20 = .ok (.i2b, 1) := by decide +kernel
theorem dX10_types_21 : decode cX10_types 21 = .ok (.bastore, 1) := by decide +kernel
theorem dX10_types_22 : decode cX10_types 22 = .ok (.aload_n 0, 1) := by decide +kernel
theorem dX10_types_23 : decode cX10_types 23 = .ok (.aload_n 0, 1) := by decide +kernel
theorem dX10_types_24 : decode cX10_types 24 = .ok (.getfield 131, 3) := by decide +kernel
theorem dX10_types_27 : decode cX10_types 27 = .ok (.iconst 1, 1) := by decide +kernel
theorem dX10_types_28 : decode cX10_types 28 = .ok (.iadd, 1) := by decide +kernel
theorem dX10_types_29 : decode cX10_types 29 = .ok (.putfield 131, 3) := by decide +kernel
theorem dX10_types_32 : decode cX10_types 32 = .ok (.iinc 2 (-1), 3) := by decide +kernel
theorem dX10_types_35 : decode cX10_types 35 = .ok (.goto (-33), 3) := by decide +kernel
theorem dX10_types_38 : decode cX10_types 38 = .ok (.return_, 1) := by decide +kernel
set_option maxRecDepth 20000 in
theorem ggX10_feed_X10_types : GoodIn wsX10_feed wsX10_types := goodIn_r _ [6, 7, 1, 8, 9, 10, 11, 12, 13, 14, 15, 16, 17, 18, 19, 20, 21, 22, 23, 24, 25, 26, 27, 28, 29, 30, 31, 32, 33, 34, 35, 36, 37, 38, 39, 40, 41, 42, 43, 44, 45, 46, 47, 48, 49, 50, 51, 52, 53, 54, 55, 56, 57, 58, 59] (by decide +kernel) (by decide +kernel)
set_option maxRecDepth 20000 in
theorem gX10_feed_X10_types : GoodIn wsX10_feed (wsV RX10 134 RX10 yX10_types wsX10_types) := goodIn_app (goodIn_of _ (by decide +kernel)) ggX10_feed_X10_types
theorem dX10_feed_0 : decode cX10_feed 0 = .ok (.aload_n 0, 1) := by decide +kernel
theorem dX10_feed_1 : decode cX10_feed 1 = .ok (.getfield 131, 3) := by decide +kernel
theorem dX10_feed_4 : decode cX10_feed 4 = .ok (.bipush 20, 2) := by decide +kernel
theorem dX10_feed_6 : decode cX10_feed 6 = .ok (.iadd, 1) := by decide +kernel
theorem dX10_feed_7 : decode cX10_feed 7 = .ok (.sipush 260, 3) := by decide +kernel
theorem dX10_feed_10 : decode cX10_feed 10 = .ok (.if_icmp .le 5, 3) := by decide +kernel
theorem dX10_feed_13 : decode cX10_feed 13 = .ok (.iconst (-1), 1) := by decide +kernel
theorem dX10_feed_14 : decode cX10_feed 14 = .ok (.ireturn, 1) := by decide +kernel
theorem dX10_feed_15 : decode cX10_feed 15 = .ok (.aload_n 0, 1) := by decide +kernel
theorem dX10_feed_16 : decode cX10_feed 16 = .ok (.iload_n 1, 1) := by decide +kernel
theorem dX10_feed_17 : decode cX10_feed 17 = .ok (.invokevirtual 134, 3) := by decide +kernel
theorem dX10_feed_20 : decode cX10_feed 20 = .ok (.aload_n 0, 1) := by decide +kernel
theorem dX10_feed_21 : decode cX10_feed 21 = .ok (.iload_n 2, 1) := by decide +kernel
theorem dX10_feed_22 : decode cX10_feed 22 = .ok (.invokevirtual 134, 3) := by decide +kernel
theorem dX10_feed_25 : decode cX10_feed 25 = .ok (.aload_n 0, 1) := by decide +kernel
theorem dX10_feed_26 : decode cX10_feed 26 = .ok (.iload_n 3, 1) := by decide +kernel
theorem dX10_feed_27 : decode cX10_feed 27 = .ok (.invokevirtual 134, 3) := by decide +kernel
theorem dX10_feed_30 : decode cX10_feed 30 = .ok (.aload_n 0, 1) := by decide +kernel
theorem dX10_feed_31 : decode cX10_feed 31 = .ok (.iload 4, 2) := by decide +kernel
theorem dX10_feed_33 : decode cX10_feed 33 = .ok (.invokevirtual 134, 3) := by decide +kernel
theorem dX10_feed_36 : decode cX10_feed 36 = .ok (.aload_n 0, 1) := by decide +kernel
theorem dX10_feed_37 : decode cX10_feed 37 = .ok (.iload 5, 2) := by decide +kernel
theorem dX10_feed_39 : decode cX10_feed 39 = .ok (.invokevirtual 134, 3) := by decide +kernel
theorem dX10_feed_42 : decode cX10_feed 42 = .ok (.aload_n 0, 1) := by decide +kernel
theorem dX10_feed_43 : decode cX10_feed 43 = .ok (.getfield 131, 3) := by decide +kernel
theorem dX10_feed_46 : decode cX10_feed 46 = .ok (.ireturn, 1) := by decide +kernel
theorem dX10_octet_0 : decode cX10_octet 0 = .ok (.aload_n 0, 1) := by decide +kernel
theorem dX10_octet_1 : decode cX10_octet 1 = .ok (.getfield 28, 3) := by decide +kernel
theorem dX10_octet_4 : decode cX10_octet 4 = .ok (.iload_n 1, 1) := by decide +kernel
theorem dX10_octet_5 : decode cX10_octet 5 = .ok (.baload, 1) := by decide +kernel
theorem dX10_octet_6 : decode cX10_octet 6 = .ok (.sipush 255, 3) := by decide +kernel
theorem dX10_octet_9 : decode cX10_octet 9 = .ok (.iand, 1) := by decide +kernel
theorem dX10_octet_10 : decode cX10_octet 10 = .ok (.ireturn, 1) := by decide +kernel
theorem dX10_here_0 : decode cX10_here 0 = .ok (.aload_n 0, 1) := by decide +kernel
theorem dX10_here_1 : decode cX10_here 1 = .ok (.getfield 138, 3) := by decide +kernel
theorem dX10_here_4 : decode cX10_here 4 = .ok (.aload_n 0, 1) := by decide +kernel
theorem dX10_here_5 : decode cX10_here 5 = .ok (.getfield 141, 3) := by decide +kernel
theorem dX10_here_8 : decode cX10_here 8 = .ok (.if_icmp .ge 19, 3) := by decide +kernel
theorem dX10_here_11 : decode cX10_here 11 = .ok (.aload_n 0, 1) := by decide +kernel
theorem dX10_here_12 : decode cX10_here 12 = .ok (.getfield 28, 3) := by decide +kernel
theorem dX10_here_15 : decode cX10_here 15 = .ok (.aload_n 0, 1) := by decide +kernel
theorem dX10_here_16 : decode cX10_here 16 = .ok (.getfield 138, 3) := by decide +kernel
theorem dX10_here_19 : decode cX10_here 19 = .ok (.baload, 1) := by decide +kernel
theorem dX10_here_20 : decode cX10_here 20 = .ok (.sipush 255, 3) := by decide +kernel
theorem dX10_here_23 : decode cX10_here 23 = .ok (.iand, 1) := by decide +kernel
theorem dX10_here_24 : decode cX10_here 24 = .ok (.goto 4, 3) := by decide +kernel
theorem dX10_here_27 : decode cX10_here 27 = .ok (.iconst (-1), 1) := by decide +kernel
theorem dX10_here_28 : decode cX10_here 28 = .ok (.ireturn, 1) := by decide +kernel
set_option maxRecDepth 20000 in
theorem ggX10_isDigit_X10_here : GoodIn wsX10_isDigit wsX10_here := goodIn_r _ [5, 6, 7, 8, 9, 10, 11, 12, 13, 14, 15, 16, 17, 18, 19, 20, 21, 22, 23, 24, 25, 26, 27, 28, 29, 30, 31, 32, 33, 34, 35, 36, 37, 38, 39, 40, 41, 42, 43, 44, 45, 46, 47, 48, 49, 50, 51, 52, 53, 54, 55, 56, 57, 58, 59, 60] (by decide +kernel) (by decide +kernel)
set_option maxRecDepth 20000 in
theorem gX10_isDigit_X10_here : GoodIn wsX10_isDigit (wsV RX10 144 RX10 yX10_here wsX10_here) := goodIn_app (goodIn_of _ (by decide +kernel)) ggX10_isDigit_X10_here
theorem dX10_isDigit_0 : decode cX10_isDigit 0 = .ok (.aload_n 0, 1) := by decide +kernel
theorem dX10_isDigit_1 : decode cX10_isDigit 1 = .ok (.invokevirtual 144, 3) := by decide +kernel
theorem dX10_isDigit_4 : decode cX10_isDigit 4 = .ok (.bipush 48, 2) := by decide +kernel
theorem dX10_isDigit_6 : decode cX10_isDigit 6 = .ok (.if_icmp .lt 16, 3) := by decide +kernel
theorem dX10_isDigit_9 : decode cX10_isDigit 9 = .ok (.aload_n 0, 1) := by decide +kernel
theorem dX10_isDigit_10 : decode cX10_isDigit 10 = .ok (.invokevirtual 144, 3) := by decide +kernel
theorem dX10_isDigit_13 : decode cX10_isDigit 13 = .ok (.bipush 57, 2) := by decide +kernel
theorem dX10_isDigit_15 : decode cX10_isDigit 15 = .ok (.if_icmp .gt 7, 3) := by decide +kernel
theorem dX10_isDigit_18 : decode cX10_isDigit 18 = .ok (.iconst 1, 1) := by decide +kernel
theorem dX10_isDigit_19 : decode cX10_isDigit 19 = .ok (.goto 4, 3) := by decide +kernel
theorem dX10_isDigit_22 : decode cX10_isDigit 22 = .ok (.iconst 0, 1) := by decide +kernel
theorem dX10_isDigit_23 : decode cX10_isDigit 23 = .ok (.ireturn, 1) := by decide +kernel
theorem dX10_wrongAt_0 : decode cX10_wrongAt 0 = .ok (.aload_n 0, 1) := by decide +kernel
theorem dX10_wrongAt_1 : decode cX10_wrongAt 1 = .ok (.sipush (-1000), 3) := by decide +kernel
theorem dX10_wrongAt_4 : decode cX10_wrongAt 4 = .ok (.iload_n 1, 1) := by decide +kernel
theorem dX10_wrongAt_5 : decode cX10_wrongAt 5 = .ok (.imul, 1) := by decide +kernel
theorem dX10_wrongAt_6 : decode cX10_wrongAt 6 = .ok (.iload_n 2, 1) := by decide +kernel
theorem dX10_wrongAt_7 : decode cX10_wrongAt 7 = .ok (.isub, 1) := by decide +kernel
theorem dX10_wrongAt_8 : decode cX10_wrongAt 8 = .ok (.putfield 148, 3) := by decide +kernel
theorem dX10_wrongAt_11 : decode cX10_wrongAt 11 = .ok (.iconst 0, 1) := by decide +kernel
theorem dX10_wrongAt_12 : decode cX10_wrongAt 12 = .ok (.ireturn, 1) := by decide +kernel
set_option maxRecDepth 20000 in
theorem ggX10_takes_X10_here : GoodIn wsX10_takes wsX10_here := goodIn_r _ [6, 1, 7, 8, 14, 15, 16, 17, 18, 19, 20, 21, 22, 23, 24, 25, 26, 27, 28, 29, 30, 31, 32, 33, 34, 35, 36, 37, 38, 39, 40, 41, 42, 43, 44, 45, 46, 47, 48, 49, 50, 51, 52, 53, 54, 55, 56, 57, 58, 59, 60, 61, 62, 63, 64, 65] (by decide +kernel) (by decide +kernel)
set_option maxRecDepth 20000 in
theorem gX10_takes_X10_here : GoodIn wsX10_takes (wsV RX10 144 RX10 yX10_here wsX10_here) := goodIn_app (goodIn_of _ (by decide +kernel)) ggX10_takes_X10_here
set_option maxRecDepth 20000 in
theorem ggX10_takes_X10_wrongAt : GoodIn wsX10_takes wsX10_wrongAt := goodIn_r _ [12, 13, 14, 15, 16, 17, 18, 19, 20, 21, 22, 23, 24, 25, 26, 27, 28, 29, 30, 31, 32, 33, 34, 35, 36, 37, 38, 39, 40, 41, 42, 43, 44, 45, 46, 47, 48, 49, 50, 51, 52, 53, 54, 55, 56, 57, 58, 59, 60, 61, 62, 63, 64, 65] (by decide +kernel) (by decide +kernel)
set_option maxRecDepth 20000 in
theorem gX10_takes_X10_wrongAt : GoodIn wsX10_takes (wsV RX10 151 RX10 yX10_wrongAt wsX10_wrongAt) := goodIn_app (goodIn_of _ (by decide +kernel)) ggX10_takes_X10_wrongAt
theorem dX10_takes_0 : decode cX10_takes 0 = .ok (.aload_n 0, 1) := by decide +kernel
theorem dX10_takes_1 : decode cX10_takes 1 = .ok (.invokevirtual 144, 3) := by decide +kernel
theorem dX10_takes_4 : decode cX10_takes 4 = .ok (.iload_n 1, 1) := by decide +kernel
theorem dX10_takes_5 : decode cX10_takes 5 = .ok (.if_icmp .eq 13, 3) := by decide +kernel
theorem dX10_takes_8 : decode cX10_takes 8 = .ok (.aload_n 0, 1) := by decide +kernel
theorem dX10_takes_9 : decode cX10_takes 9 = .ok (.iconst 1, 1) := by decide +kernel
theorem dX10_takes_10 : decode cX10_takes 10 = .ok (.aload_n 0, 1) := by decide +kernel
theorem dX10_takes_11 : decode cX10_takes 11 = .ok (.getfield 138, 3) := by decide +kernel
theorem dX10_takes_14 : decode cX10_takes 14 = .ok (.invokevirtual 151, 3) := by decide +kernel
theorem dX10_takes_17 : decode cX10_takes 17 = .ok (.ireturn, 1) := by decide +kernel
theorem dX10_takes_18 : decode cX10_takes 18 = .ok (.aload_n 0, 1) := by decide +kernel
theorem dX10_takes_19 : decode cX10_takes 19 = .ok (.aload_n 0, 1) := by decide +kernel
theorem dX10_takes_20 : decode cX10_takes 20 = .ok (.getfield 138, 3) := by decide +kernel
theorem dX10_takes_23 : decode cX10_takes 23 = .ok (.iconst 1, 1) := by decide +kernel
theorem dX10_takes_24 : decode cX10_takes 24 = .ok (.iadd, 1) := by decide +kernel
theorem dX10_takes_25 : decode cX10_takes 25 = .ok (.putfield 138, 3) := by decide +kernel
theorem dX10_takes_28 : decode cX10_takes 28 = .ok (.iconst 1, 1) := by decide +kernel
theorem dX10_takes_29 : decode cX10_takes 29 = .ok (.ireturn, 1) := by decide +kernel
set_option maxRecDepth 20000 in
theorem ggX10_readsNumber_X10_isDigit : GoodIn wsX10_readsNumber wsX10_isDigit := goodIn_r _ [7, 8, 9, 10, 6, 11, 1, 12, 13, 19, 20, 21, 22, 23, 24, 25, 26, 27, 28, 29, 30, 31, 32, 33, 34, 35, 36, 37, 38, 39, 40, 41, 42, 43, 44, 45, 46, 47, 48, 49, 50, 51, 52, 53, 54, 55, 56, 57, 58, 59, 60, 61, 62, 63, 64, 65, 66, 67, 68, 69, 70] (by decide +kernel) (by decide +kernel)
set_option maxRecDepth 20000 in
theorem gX10_readsNumber_X10_isDigit : GoodIn wsX10_readsNumber (wsV RX10 157 RX10 yX10_isDigit wsX10_isDigit) := goodIn_app (goodIn_of _ (by decide +kernel)) ggX10_readsNumber_X10_isDigit
set_option maxRecDepth 20000 in
theorem ggX10_readsNumber_X10_wrongAt : GoodIn wsX10_readsNumber wsX10_wrongAt := goodIn_r _ [17, 18, 19, 20, 21, 22, 23, 24, 25, 26, 27, 28, 29, 30, 31, 32, 33, 34, 35, 36, 37, 38, 39, 40, 41, 42, 43, 44, 45, 46, 47, 48, 49, 50, 51, 52, 53, 54, 55, 56, 57, 58, 59, 60, 61, 62, 63, 64, 65, 66, 67, 68, 69, 70] (by decide +kernel) (by decide +kernel)
set_option maxRecDepth 20000 in
theorem gX10_readsNumber_X10_wrongAt : GoodIn wsX10_readsNumber (wsV RX10 151 RX10 yX10_wrongAt wsX10_wrongAt) := goodIn_app (goodIn_of _ (by decide +kernel)) ggX10_readsNumber_X10_wrongAt
set_option maxRecDepth 20000 in
theorem ggX10_readsNumber_X10_here : GoodIn wsX10_readsNumber wsX10_here := goodIn_r _ [11, 1, 12, 13, 19, 20, 21, 22, 23, 24, 25, 26, 27, 28, 29, 30, 31, 32, 33, 34, 35, 36, 37, 38, 39, 40, 41, 42, 43, 44, 45, 46, 47, 48, 49, 50, 51, 52, 53, 54, 55, 56, 57, 58, 59, 60, 61, 62, 63, 64, 65, 66, 67, 68, 69, 70] (by decide +kernel) (by decide +kernel)
set_option maxRecDepth 20000 in
theorem gX10_readsNumber_X10_here : GoodIn wsX10_readsNumber (wsV RX10 144 RX10 yX10_here wsX10_here) := goodIn_app (goodIn_of _ (by decide +kernel)) ggX10_readsNumber_X10_here
theorem dX10_readsNumber_0 : decode cX10_readsNumber 0 = .ok (.aload_n 0, 1) := by decide +kernel
theorem dX10_readsNumber_1 : decode cX10_readsNumber 1 = .ok (.getfield 138, 3) := by decide +kernel
theorem dX10_readsNumber_4 : decode cX10_readsNumber 4 = .ok (.istore_n 1, 1) := by decide +kernel
theorem dX10_readsNumber_5 : decode cX10_readsNumber 5 = .ok (.aload_n 0, 1) := by decide +kernel
theorem dX10_readsNumber_6 : decode cX10_readsNumber 6 = .ok (.iconst 0, 1) := by decide +kernel
theorem dX10_readsNumber_7 : decode cX10_readsNumber 7 = .ok (.putfield 154, 3) := by decide +kernel
theorem dX10_readsNumber_10 : decode cX10_readsNumber 10 = .ok (.aload_n 0, 1) := by decide +kernel
theorem dX10_readsNumber_11 : decode cX10_readsNumber 11 = .ok (.invokevirtual 157, 3) := by decide +kernel
theorem dX10_readsNumber_14 : decode cX10_readsNumber 14 = .ok (.ifCond .eq 55, 3) := by decide +kernel
theorem dX10_readsNumber_17 : decode cX10_readsNumber 17 = .ok (.aload_n 0, 1) := by decide +kernel
theorem dX10_readsNumber_18 : decode cX10_readsNumber 18 = .ok (.getfield 138, 3) := by decide +kernel
theorem dX10_readsNumber_21 : decode cX10_readsNumber 21 = .ok (.iload_n 1, 1) := by decide +kernel
theorem dX10_readsNumber_22 : decode cX10_readsNumber 22 = .ok (.iconst 5, 1) := by decide +kernel
theorem dX10_readsNumber_23 : decode cX10_readsNumber 23 = .ok (.iadd, 1) := by decide +kernel
theorem dX10_readsNumber_24 : decode cX10_readsNumber 24 = .ok (.if_icmp .ne 13, 3) := by decide +kernel
theorem dX10_readsNumber_27 : decode cX10_readsNumber 27 = .ok (.aload_n 0, 1) := by decide +kernel
theorem dX10_readsNumber_28 : decode cX10_readsNumber 28 = .ok (.iconst 2, 1) := by decide +kernel
theorem dX10_readsNumber_29 : decode cX10_readsNumber 29 = .ok (.aload_n 0, 1) := by decide +kernel
theorem dX10_readsNumber_30 : decode cX10_readsNumber 30 = .ok (.getfield 138, 3) := by decide +kernel
theorem dX10_readsNumber_33 : decode cX10_readsNumber 33 = .ok (.invokevirtual 151, 3) := by decide +kernel
theorem dX10_readsNumber_36 : decode cX10_readsNumber 36 = .ok (.ireturn, 1) := by decide +kernel
theorem dX10_readsNumber_37 : decode cX10_readsNumber 37 = .ok (.aload_n 0, 1) := by decide +kernel
theorem dX10_readsNumber_38 : decode cX10_readsNumber 38 = .ok (.bipush 10, 2) := by decide +kernel
theorem dX10_readsNumber_40 : decode cX10_readsNumber 40 = .ok (.aload_n 0, 1) := by decide +kernel
theorem dX10_readsNumber_41 : decode cX10_readsNumber 41 = .ok (.getfield 154, 3) := by decide +kernel
theorem dX10_readsNumber_44 : decode cX10_readsNumber 44 = .ok (.imul, 1) := by decide +kernel
theorem dX10_readsNumber_45 : decode cX10_readsNumber 45 = .ok (.aload_n 0, 1) := by decide +kernel
theorem dX10_readsNumber_46 : decode cX10_readsNumber 46 = .ok (.invokevirtual 144, 3) := by decide +kernel
theorem dX10_readsNumber_49 : decode cX10_readsNumber 49 = .ok (.iadd, 1) := by decide +kernel
theorem dX10_readsNumber_50 : decode cX10_readsNumber 50 = .ok (.bipush 48, 2) := by decide +kernel
theorem dX10_readsNumber_52 : decode cX10_readsNumber 52 = .ok (.isub, 1) := by decide +kernel
theorem dX10_readsNumber_53 : decode cX10_readsNumber 53 = .ok (.putfield 154, 3) := by decide +kernel
theorem dX10_readsNumber_56 : decode cX10_readsNumber 56 = .ok (.aload_n 0, 1) := by decide +kernel
theorem dX10_readsNumber_57 : decode cX10_readsNumber 57 = .ok (.aload_n 0, 1) := by decide +kernel
theorem dX10_readsNumber_58 : decode cX10_readsNumber 58 = .ok (.getfield 138, 3) := by decide +kernel
theorem dX10_readsNumber_61 : decode cX10_readsNumber 61 = .ok (.iconst 1, 1) := by decide +kernel
theorem dX10_readsNumber_62 : decode cX10_readsNumber 62 = .ok (.iadd, 1) := by decide +kernel
theorem dX10_readsNumber_63 : decode cX10_readsNumber 63 = .ok (.putfield 138, 3) := by decide +kernel
theorem dX10_readsNumber_66 : decode cX10_readsNumber 66 = .ok (.goto (-56), 3) := by decide +kernel
theorem dX10_readsNumber_69 : decode cX10_readsNumber 69 = .ok (.iconst 1, 1) := by decide +kernel
theorem dX10_readsNumber_70 : decode cX10_readsNumber 70 = .ok (.ireturn, 1) := by decide +kernel
theorem dX10_notes_0 : decode cX10_notes 0 = .ok (.aload_n 0, 1) := by decide +kernel
theorem dX10_notes_1 : decode cX10_notes 1 = .ok (.getfield 32, 3) := by decide +kernel
theorem dX10_notes_4 : decode cX10_notes 4 = .ok (.aload_n 0, 1) := by decide +kernel
theorem dX10_notes_5 : decode cX10_notes 5 = .ok (.getfield 161, 3) := by decide +kernel
theorem dX10_notes_8 : decode cX10_notes 8 = .ok (.ldc 86, 2) := by decide +kernel
theorem dX10_notes_10 : decode cX10_notes 10 = .ok (.iload_n 1, 1) := by decide +kernel
theorem dX10_notes_11 : decode cX10_notes 11 = .ok (.imul, 1) := by decide +kernel
theorem dX10_notes_12 : decode cX10_notes 12 = .ok (.iload_n 2, 1) := by decide +kernel
theorem dX10_notes_13 : decode cX10_notes 13 = .ok (.iadd, 1) := by decide +kernel
theorem dX10_notes_14 : decode cX10_notes 14 = .ok (.iastore, 1) := by decide +kernel
theorem dX10_notes_15 : decode cX10_notes 15 = .ok (.aload_n 0, 1) := by decide +kernel
theorem dX10_notes_16 : decode cX10_notes 16 = .ok (.aload_n 0, 1) := by decide +kernel
theorem dX10_notes_17 : decode cX10_notes 17 = .ok (.getfield 161, 3) := by decide +kernel
theorem dX10_notes_20 : decode cX10_notes 20 = .ok (.iconst 1, 1) := by decide +kernel
theorem dX10_notes_21 : decode cX10_notes 21 = .ok (.iadd, 1) := by decide +kernel
theorem dX10_notes_22 : decode cX10_notes 22 = .ok (.putfield 161, 3) := by decide +kernel
theorem dX10_notes_25 : decode cX10_notes 25 = .ok (.return_, 1) := by decide +kernel
set_option maxRecDepth 20000 in
theorem ggX10_opens_X10_wrongAt : GoodIn wsX10_opens wsX10_wrongAt := goodIn_r _ [10, 11, 12, 13, 14, 15, 16, 17, 18, 19, 20, 21, 22, 23, 24, 25, 26, 27, 28, 29, 30, 31, 32, 33, 34, 35, 36, 37, 38, 39, 40, 41, 42, 43, 44, 45, 46, 47, 48, 49, 50, 51, 52, 53, 54, 55, 56, 57, 58, 59, 60, 61, 62, 63] (by decide +kernel) (by decide +kernel)
set_option maxRecDepth 20000 in
theorem gX10_opens_X10_wrongAt : GoodIn wsX10_opens (wsV RX10 151 RX10 yX10_wrongAt wsX10_wrongAt) := goodIn_app (goodIn_of _ (by decide +kernel)) ggX10_opens_X10_wrongAt
theorem dX10_opens_0 : decode cX10_opens 0 = .ok (.aload_n 0, 1) := by decide +kernel
theorem dX10_opens_1 : decode cX10_opens 1 = .ok (.getfield 164, 3) := by decide +kernel
theorem dX10_opens_4 : decode cX10_opens 4 = .ok (.bipush 6, 2) := by decide +kernel
theorem dX10_opens_6 : decode cX10_opens 6 = .ok (.if_icmp .ne 13, 3) := by decide +kernel
theorem dX10_opens_9 : decode cX10_opens 9 = .ok (.aload_n 0, 1) := by decide +kernel
theorem dX10_opens_10 : decode cX10_opens 10 = .ok (.iconst 5, 1) := by decide +kernel
theorem dX10_opens_11 : decode cX10_opens 11 = .ok (.aload_n 0, 1) := by decide +kernel
theorem dX10_opens_12 : decode cX10_opens 12 = .ok (.getfield 138, 3) := by decide +kernel
theorem dX10_opens_15 : decode cX10_opens 15 = .ok (.invokevirtual 151, 3) := by decide +kernel
theorem dX10_opens_18 : decode cX10_opens 18 = .ok (.ireturn, 1) := by decide +kernel
theorem dX10_opens_19 : decode cX10_opens 19 = .ok (.aload_n 0, 1) := by decide +kernel
theorem dX10_opens_20 : decode cX10_opens 20 = .ok (.aload_n 0, 1) := by decide +kernel
theorem dX10_opens_21 : decode cX10_opens 21 = .ok (.getfield 164, 3) := by decide +kernel
theorem dX10_opens_24 : decode cX10_opens 24 = .ok (.iconst 1, 1) := by decide +kernel
theorem dX10_opens_25 : decode cX10_opens 25 = .ok (.iadd, 1) := by decide +kernel
theorem dX10_opens_26 : decode cX10_opens 26 = .ok (.putfield 164, 3) := by decide +kernel
theorem dX10_opens_29 : decode cX10_opens 29 = .ok (.aload_n 0, 1) := by decide +kernel
theorem dX10_opens_30 : decode cX10_opens 30 = .ok (.getfield 35, 3) := by decide +kernel
theorem dX10_opens_33 : decode cX10_opens 33 = .ok (.aload_n 0, 1) := by decide +kernel
theorem dX10_opens_34 : decode cX10_opens 34 = .ok (.getfield 167, 3) := by decide +kernel
theorem dX10_opens_37 : decode cX10_opens 37 = .ok (.ldc 86, 2) := by decide +kernel
theorem dX10_opens_39 : decode cX10_opens 39 = .ok (.iload_n 1, 1) := by decide +kernel
theorem dX10_opens_40 : decode cX10_opens 40 = .ok (.imul, 1) := by decide +kernel
theorem dX10_opens_41 : decode cX10_opens 41 = .ok (.iastore, 1) := by decide +kernel
theorem dX10_opens_42 : decode cX10_opens 42 = .ok (.aload_n 0, 1) := by decide +kernel
theorem dX10_opens_43 : decode cX10_opens 43 = .ok (.aload_n 0, 1) := by decide +kernel
theorem dX10_opens_44 : decode cX10_opens 44 = .ok (.getfield 167, 3) := by decide +kernel
theorem dX10_opens_47 : decode cX10_opens 47 = .ok (.iconst 1, 1) := by decide +kernel
theorem dX10_opens_48 : decode cX10_opens 48 = .ok (.iadd, 1) := by decide +kernel
theorem dX10_opens_49 : decode cX10_opens 49 = .ok (.putfield 167, 3) := by decide +kernel
theorem dX10_opens_52 : decode cX10_opens 52 = .ok (.aload_n 0, 1) := by decide +kernel
theorem dX10_opens_53 : decode cX10_opens 53 = .ok (.aload_n 0, 1) := by decide +kernel
theorem dX10_opens_54 : decode cX10_opens 54 = .ok (.getfield 138, 3) := by decide +kernel
theorem dX10_opens_57 : decode cX10_opens 57 = .ok (.iconst 1, 1) := by decide +kernel
theorem dX10_opens_58 : decode cX10_opens 58 = .ok (.iadd, 1) := by decide +kernel
theorem dX10_opens_59 : decode cX10_opens 59 = .ok (.putfield 138, 3) := by decide +kernel
theorem dX10_opens_62 : decode cX10_opens 62 = .ok (.iconst 1, 1) := by decide +kernel
theorem dX10_opens_63 : decode cX10_opens 63 = .ok (.ireturn, 1) := by decide +kernel
theorem dX10_waitTop_0 : decode cX10_waitTop 0 = .ok (.aload_n 0, 1) := by decide +kernel
theorem dX10_waitTop_1 : decode cX10_waitTop 1 = .ok (.getfield 167, 3) := by decide +kernel
theorem dX10_waitTop_4 : decode cX10_waitTop 4 = .ok (.ifCond .ne 7, 3) := by decide +kernel
theorem dX10_waitTop_7 : decode cX10_waitTop 7 = .ok (.iconst (-1), 1) := by decide +kernel
theorem dX10_waitTop_8 : decode cX10_waitTop 8 = .ok (.goto 17, 3) := by decide +kernel
theorem dX10_waitTop_11 : decode cX10_waitTop 11 = .ok (.aload_n 0, 1) := by decide +kernel
theorem dX10_waitTop_12 : decode cX10_waitTop 12 = .ok (.getfield 35, 3) := by decide +kernel
theorem dX10_waitTop_15 : decode cX10_waitTop 15 = .ok (.aload_n 0, 1) := by decide +kernel
theorem dX10_waitTop_16 : decode cX10_waitTop 16 = .ok (.getfield 167, 3) := by decide +kernel
theorem dX10_waitTop_19 : decode cX10_waitTop 19 = .ok (.iconst 1, 1) := by decide +kernel
theorem dX10_waitTop_20 : decode cX10_waitTop 20 = .ok (.isub, 1) := by decide +kernel
theorem dX10_waitTop_21 : decode cX10_waitTop 21 = .ok (.iaload, 1) := by decide +kernel
theorem dX10_waitTop_22 : decode cX10_waitTop 22 = .ok (.ldc 86, 2) := by decide +kernel
theorem dX10_waitTop_24 : decode cX10_waitTop 24 = .ok (.idiv, 1) := by decide +kernel
theorem dX10_waitTop_25 : decode cX10_waitTop 25 = .ok (.ireturn, 1) := by decide +kernel
theorem dX10_factOf_0 : decode cX10_factOf 0 = .ok (.iload_n 0, 1) := by decide +kernel
theorem dX10_factOf_1 : decode cX10_factOf 1 = .ok (.tableswitch 105 99 116 #[93, 102, 105, 105, 91, 99, 105, 105, 105, 97, 105, 95, 105, 87, 105, 105, 105, 89], 87) := by decide +kernel
theorem dX10_factOf_88 : decode cX10_factOf 88 = .ok (.iconst 0, 1) := by decide +kernel
theorem dX10_factOf_89 : decode cX10_factOf 89 = .ok (.ireturn, 1) := by decide +kernel
theorem dX10_factOf_90 : decode cX10_factOf 90 = .ok (.iconst 1, 1) := by decide +kernel
theorem dX10_factOf_91 : decode cX10_factOf 91 = .ok (.ireturn, 1) := by decide +kernel
theorem dX10_factOf_92 : decode cX10_factOf 92 = .ok (.iconst 2, 1) := by decide +kernel
theorem dX10_factOf_93 : decode cX10_factOf 93 = .ok (.ireturn, 1) := by decide +kernel
theorem dX10_factOf_94 : decode cX10_factOf 94 = .ok (.iconst 3, 1) := by decide +kernel
theorem dX10_factOf_95 : decode cX10_factOf 95 = .ok (.ireturn, 1) := by decide +kernel
theorem dX10_factOf_96 : decode cX10_factOf 96 = .ok (.iconst 4, 1) := by decide +kernel
theorem dX10_factOf_97 : decode cX10_factOf 97 = .ok (.ireturn, 1) := by decide +kernel
theorem dX10_factOf_98 : decode cX10_factOf 98 = .ok (.iconst 5, 1) := by decide +kernel
theorem dX10_factOf_99 : decode cX10_factOf 99 = .ok (.ireturn, 1) := by decide +kernel
theorem dX10_factOf_100 : decode cX10_factOf 100 = .ok (.bipush 6, 2) := by decide +kernel
theorem dX10_factOf_102 : decode cX10_factOf 102 = .ok (.ireturn, 1) := by decide +kernel
theorem dX10_factOf_103 : decode cX10_factOf 103 = .ok (.bipush 7, 2) := by decide +kernel
theorem dX10_factOf_105 : decode cX10_factOf 105 = .ok (.ireturn, 1) := by decide +kernel
theorem dX10_factOf_106 : decode cX10_factOf 106 = .ok (.iconst (-1), 1) := by decide +kernel
theorem dX10_factOf_107 : decode cX10_factOf 107 = .ok (.ireturn, 1) := by decide +kernel
theorem dX10_sumSign_0 : decode cX10_sumSign 0 = .ok (.iload_n 0, 1) := by decide +kernel
theorem dX10_sumSign_1 : decode cX10_sumSign 1 = .ok (.bipush 43, 2) := by decide +kernel
theorem dX10_sumSign_3 : decode cX10_sumSign 3 = .ok (.if_icmp .ne 7, 3) := by decide +kernel
theorem dX10_sumSign_6 : decode cX10_sumSign 6 = .ok (.iconst 2, 1) := by decide +kernel
theorem dX10_sumSign_7 : decode cX10_sumSign 7 = .ok (.goto 45, 3) := by decide +kernel
theorem dX10_sumSign_10 : decode cX10_sumSign 10 = .ok (.iload_n 0, 1) := by decide +kernel
theorem dX10_sumSign_11 : decode cX10_sumSign 11 = .ok (.bipush 45, 2) := by decide +kernel
theorem dX10_sumSign_13 : decode cX10_sumSign 13 = .ok (.if_icmp .ne 7, 3) := by decide +kernel
theorem dX10_sumSign_16 : decode cX10_sumSign 16 = .ok (.iconst 3, 1) := by decide +kernel
theorem dX10_sumSign_17 : decode cX10_sumSign 17 = .ok (.goto 35, 3) := by decide +kernel
theorem dX10_sumSign_20 : decode cX10_sumSign 20 = .ok (.iload_n 0, 1) := by decide +kernel
theorem dX10_sumSign_21 : decode cX10_sumSign 21 = .ok (.bipush 42, 2) := by decide +kernel
theorem dX10_sumSign_23 : decode cX10_sumSign 23 = .ok (.if_icmp .ne 7, 3) := by decide +kernel
theorem dX10_sumSign_26 : decode cX10_sumSign 26 = .ok (.iconst 4, 1) := by decide +kernel
theorem dX10_sumSign_27 : decode cX10_sumSign 27 = .ok (.goto 25, 3) := by decide +kernel
theorem dX10_sumSign_30 : decode cX10_sumSign 30 = .ok (.iload_n 0, 1) := by decide +kernel
theorem dX10_sumSign_31 : decode cX10_sumSign 31 = .ok (.bipush 47, 2) := by decide +kernel
theorem dX10_sumSign_33 : decode cX10_sumSign 33 = .ok (.if_icmp .ne 7, 3) := by decide +kernel
theorem dX10_sumSign_36 : decode cX10_sumSign 36 = .ok (.iconst 5, 1) := by decide +kernel
theorem dX10_sumSign_37 : decode cX10_sumSign 37 = .ok (.goto 15, 3) := by decide +kernel
theorem dX10_sumSign_40 : decode cX10_sumSign 40 = .ok (.iload_n 0, 1) := by decide +kernel
theorem dX10_sumSign_41 : decode cX10_sumSign 41 = .ok (.bipush 37, 2) := by decide +kernel
theorem dX10_sumSign_43 : decode cX10_sumSign 43 = .ok (.if_icmp .ne 8, 3) := by decide +kernel
theorem dX10_sumSign_46 : decode cX10_sumSign 46 = .ok (.bipush 6, 2) := by decide +kernel
theorem dX10_sumSign_48 : decode cX10_sumSign 48 = .ok (.goto 4, 3) := by decide +kernel
theorem dX10_sumSign_51 : decode cX10_sumSign 51 = .ok (.iconst (-1), 1) := by decide +kernel
theorem dX10_sumSign_52 : decode cX10_sumSign 52 = .ok (.ireturn, 1) := by decide +kernel
set_option maxRecDepth 20000 in
theorem ggX10_closesSums_X10_waitTop : GoodIn wsX10_closesSums wsX10_waitTop := goodIn_r _ [6, 1, 7, 8, 15, 16, 17, 18, 19, 20, 21, 22, 23, 24, 25, 26, 27, 28, 29, 30, 31, 32, 33, 34, 35, 36, 37, 38, 39, 40, 41, 42, 43, 44, 45, 46, 47, 48, 49, 50, 51, 52, 53, 54, 55, 56, 57, 58, 59, 60, 61, 62, 63, 64, 65, 66] (by decide +kernel) (by decide +kernel)
set_option maxRecDepth 20000 in
theorem gX10_closesSums_X10_waitTop : GoodIn wsX10_closesSums (wsV RX10 170 RX10 yX10_waitTop wsX10_waitTop) := goodIn_app (goodIn_of _ (by decide +kernel)) ggX10_closesSums_X10_waitTop
set_option maxRecDepth 20000 in
theorem ggX10_closesSums_X10_notes : GoodIn wsX10_closesSums wsX10_notes := goodIn_r _ [12, 13, 14, 8, 15, 16, 17, 18, 19, 20, 21, 22, 23, 24, 25, 26, 27, 28, 29, 30, 31, 32, 33, 34, 35, 36, 37, 38, 39, 40, 41, 42, 43, 44, 45, 46, 47, 48, 49, 50, 51, 52, 53, 54, 55, 56, 57, 58, 59, 60, 61, 62, 63, 64, 65, 66] (by decide +kernel) (by decide +kernel)
set_option maxRecDepth 20000 in
theorem gX10_closesSums_X10_notes : GoodIn wsX10_closesSums (wsV RX10 173 RX10 yX10_notes wsX10_notes) := goodIn_app (goodIn_of _ (by decide +kernel)) ggX10_closesSums_X10_notes
theorem dX10_closesSums_0 : decode cX10_closesSums 0 = .ok (.aload_n 0, 1) := by decide +kernel
theorem dX10_closesSums_1 : decode cX10_closesSums 1 = .ok (.invokevirtual 170, 3) := by decide +kernel
theorem dX10_closesSums_4 : decode cX10_closesSums 4 = .ok (.iconst 4, 1) := by decide +kernel
theorem dX10_closesSums_5 : decode cX10_closesSums 5 = .ok (.if_icmp .lt 12, 3) := by decide +kernel
theorem dX10_closesSums_8 : decode cX10_closesSums 8 = .ok (.aload_n 0, 1) := by decide +kernel
theorem dX10_closesSums_9 : decode cX10_closesSums 9 = .ok (.invokevirtual 170, 3) := by decide +kernel
theorem dX10_closesSums_12 : decode cX10_closesSums 12 = .ok (.bipush 6, 2) := by decide +kernel
theorem dX10_closesSums_14 : decode cX10_closesSums 14 = .ok (.if_icmp .le 23, 3) := by decide +kernel
theorem dX10_closesSums_17 : decode cX10_closesSums 17 = .ok (.iload_n 1, 1) := by decide +kernel
theorem dX10_closesSums_18 : decode cX10_closesSums 18 = .ok (.ifCond .eq 41, 3) := by decide +kernel
theorem dX10_closesSums_21 : decode cX10_closesSums 21 = .ok (.aload_n 0, 1) := by decide +kernel
theorem dX10_closesSums_22 : decode cX10_closesSums 22 = .ok (.invokevirtual 170, 3) := by decide +kernel
theorem dX10_closesSums_25 : decode cX10_closesSums 25 = .ok (.iconst 2, 1) := by decide +kernel
theorem dX10_closesSums_26 : decode cX10_closesSums 26 = .ok (.if_icmp .eq 11, 3) := by decide +kernel
theorem dX10_closesSums_29 : decode cX10_closesSums 29 = .ok (.aload_n 0, 1) := by decide +kernel
theorem dX10_closesSums_30 : decode cX10_closesSums 30 = .ok (.invokevirtual 170, 3) := by decide +kernel
theorem dX10_closesSums_33 : decode cX10_closesSums 33 = .ok (.iconst 3, 1) := by decide +kernel
theorem dX10_closesSums_34 : decode cX10_closesSums 34 = .ok (.if_icmp .ne 25, 3) := by decide +kernel
theorem dX10_closesSums_37 : decode cX10_closesSums 37 = .ok (.aload_n 0, 1) := by decide +kernel
theorem dX10_closesSums_38 : decode cX10_closesSums 38 = .ok (.aload_n 0, 1) := by decide +kernel
theorem dX10_closesSums_39 : decode cX10_closesSums 39 = .ok (.invokevirtual 170, 3) := by decide +kernel
theorem dX10_closesSums_42 : decode cX10_closesSums 42 = .ok (.iconst 0, 1) := by decide +kernel
theorem dX10_closesSums_43 : decode cX10_closesSums 43 = .ok (.invokevirtual 173, 3) := by decide +kernel
theorem dX10_closesSums_46 : decode cX10_closesSums 46 = .ok (.aload_n 0, 1) := by decide +kernel
theorem dX10_closesSums_47 : decode cX10_closesSums 47 = .ok (.aload_n 0, 1) := by decide +kernel
theorem dX10_closesSums_48 : decode cX10_closesSums 48 = .ok (.getfield 167, 3) := by decide +kernel
theorem dX10_closesSums_51 : decode cX10_closesSums 51 = .ok (.iconst 1, 1) := by decide +kernel
theorem dX10_closesSums_52 : decode cX10_closesSums 52 = .ok (.isub, 1) := by decide +kernel
theorem dX10_closesSums_53 : decode cX10_closesSums 53 = .ok (.putfield 167, 3) := by decide +kernel
theorem dX10_closesSums_56 : decode cX10_closesSums 56 = .ok (.goto (-56), 3) := by decide +kernel
theorem dX10_closesSums_59 : decode cX10_closesSums 59 = .ok (.return_, 1) := by decide +kernel
set_option maxRecDepth 20000 in
theorem ggX10_readsFactor_X10_here : GoodIn wsX10_readsFactor wsX10_here := goodIn_r _ [7, 2, 8, 9, 40, 41, 42, 43, 44, 45, 46, 47, 48, 49, 50, 51, 52, 53, 54, 55, 56, 57, 58, 59, 60, 61, 62, 63, 64, 65, 66, 67, 68, 69, 70, 71, 72, 73, 74, 75, 76, 77, 78, 79, 80, 81, 82, 83, 84, 85, 86, 87, 88, 89, 90, 91] (by decide +kernel) (by decide +kernel)
set_option maxRecDepth 20000 in
theorem gX10_readsFactor_X10_here : GoodIn wsX10_readsFactor (wsV RX10 144 RX10 yX10_here wsX10_here) := goodIn_app (goodIn_of _ (by decide +kernel)) ggX10_readsFactor_X10_here
set_option maxRecDepth 20000 in
theorem ggX10_readsFactor_X10_opens : GoodIn wsX10_readsFactor wsX10_opens := goodIn_r _ [13, 14, 2, 15, 16, 17, 18, 19, 20, 6, 21, 22, 40, 41, 42, 43, 44, 45, 46, 47, 48, 49, 50, 51, 52, 53, 54, 55, 56, 57, 58, 59, 60, 61, 62, 63, 64, 65, 66, 67, 68, 69, 70, 71, 72, 73, 74, 75, 76, 77, 78, 79, 80, 81, 82, 83, 84, 85, 86, 87, 88, 89, 90, 91] (by decide +kernel) (by decide +kernel)
set_option maxRecDepth 20000 in
theorem gX10_readsFactor_X10_opens : GoodIn wsX10_readsFactor (wsV RX10 177 RX10 yX10_opens wsX10_opens) := goodIn_app (goodIn_of _ (by decide +kernel)) ggX10_readsFactor_X10_opens
set_option maxRecDepth 20000 in
theorem ggX10_readsFactor_X10_isDigit : GoodIn wsX10_readsFactor wsX10_isDigit := goodIn_r _ [26, 3, 4, 5, 6, 7, 2, 8, 9, 40, 41, 42, 43, 44, 45, 46, 47, 48, 49, 50, 51, 52, 53, 54, 55, 56, 57, 58, 59, 60, 61, 62, 63, 64, 65, 66, 67, 68, 69, 70, 71, 72, 73, 74, 75, 76, 77, 78, 79, 80, 81, 82, 83, 84, 85, 86, 87, 88, 89, 90, 91] (by decide +kernel) (by decide +kernel)
set_option maxRecDepth 20000 in
theorem gX10_readsFactor_X10_isDigit : GoodIn wsX10_readsFactor (wsV RX10 157 RX10 yX10_isDigit wsX10_isDigit) := goodIn_app (goodIn_of _ (by decide +kernel)) ggX10_readsFactor_X10_isDigit
set_option maxRecDepth 20000 in
theorem ggX10_readsFactor_X10_readsNumber : GoodIn wsX10_readsFactor wsX10_readsNumber := goodIn_r _ [30, 2, 1, 23, 24, 25, 6, 26, 3, 4, 5, 7, 8, 9, 18, 19, 20, 21, 22, 40, 41, 42, 43, 44, 45, 46, 47, 48, 49, 50, 51, 52, 53, 54, 55, 56, 57, 58, 59, 60, 61, 62, 63, 64, 65, 66, 67, 68, 69, 70, 71, 72, 73, 74, 75, 76, 77, 78, 79, 80, 81, 82, 83, 84, 85, 86, 87, 88, 89, 90, 91] (by decide +kernel) (by decide +kernel)
set_option maxRecDepth 20000 in
theorem gX10_readsFactor_X10_readsNumber : GoodIn wsX10_readsFactor (wsV RX10 180 RX10 yX10_readsNumber wsX10_readsNumber) := goodIn_app (goodIn_of _ (by decide +kernel)) ggX10_readsFactor_X10_readsNumber
set_option maxRecDepth 20000 in
theorem ggX10_readsFactor_X10_notes : GoodIn wsX10_readsFactor wsX10_notes := goodIn_r _ [34, 35, 36, 17, 40, 41, 42, 43, 44, 45, 46, 47, 48, 49, 50, 51, 52, 53, 54, 55, 56, 57, 58, 59, 60, 61, 62, 63, 64, 65, 66, 67, 68, 69, 70, 71, 72, 73, 74, 75, 76, 77, 78, 79, 80, 81, 82, 83, 84, 85, 86, 87, 88, 89, 90, 91] (by decide +kernel) (by decide +kernel)
set_option maxRecDepth 20000 in
theorem gX10_readsFactor_X10_notes : GoodIn wsX10_readsFactor (wsV RX10 173 RX10 yX10_notes wsX10_notes) := goodIn_app (goodIn_of _ (by decide +kernel)) ggX10_readsFactor_X10_notes
set_option maxRecDepth 20000 in
theorem ggX10_readsFactor_X10_factOf : GoodIn wsX10_readsFactor wsX10_factOf := goodIn_r _ [39] (by decide +kernel) (by decide +kernel)
set_option maxRecDepth 20000 in
theorem gX10_readsFactor_X10_factOf : GoodIn wsX10_readsFactor (va_wsS RX10 183 yX10_factOf wsX10_factOf) := goodIn_app (goodIn_of _ (by decide +kernel)) ggX10_readsFactor_X10_factOf
set_option maxRecDepth 20000 in
theorem ggX10_readsFactor_X10_wrongAt : GoodIn wsX10_readsFactor wsX10_wrongAt := goodIn_r _ [21, 22, 40, 41, 42, 43, 44, 45, 46, 47, 48, 49, 50, 51, 52, 53, 54, 55, 56, 57, 58, 59, 60, 61, 62, 63, 64, 65, 66, 67, 68, 69, 70, 71, 72, 73, 74, 75, 76, 77, 78, 79, 80, 81, 82, 83, 84, 85, 86, 87, 88, 89, 90, 91] (by decide +kernel) (by decide +kernel)
set_option maxRecDepth 20000 in
theorem gX10_readsFactor_X10_wrongAt : GoodIn wsX10_readsFactor (wsV RX10 151 RX10 yX10_wrongAt wsX10_wrongAt) := goodIn_app (goodIn_of _ (by decide +kernel)) ggX10_readsFactor_X10_wrongAt
theorem dX10_readsFactor_0 : decode cX10_readsFactor 0 = .ok (.aload_n 0, 1) := by decide +kernel
theorem dX10_readsFactor_1 : decode cX10_readsFactor 1 = .ok (.invokevirtual 144, 3) := by decide +kernel
theorem dX10_readsFactor_4 : decode cX10_readsFactor 4 = .ok (.bipush 91, 2) := by decide +kernel
theorem dX10_readsFactor_6 : decode cX10_readsFactor 6 = .ok (.if_icmp .ne 14, 3) := by decide +kernel
theorem dX10_readsFactor_9 : decode cX10_readsFactor 9 = .ok (.aload_n 0, 1) := by decide +kernel
theorem dX10_readsFactor_10 : decode cX10_readsFactor 10 = .ok (.bipush 14, 2) := by decide +kernel
theorem dX10_readsFactor_12 : decode cX10_readsFactor 12 = .ok (.invokevirtual 177, 3) := by decide +kernel
theorem dX10_readsFactor_15 : decode cX10_readsFactor 15 = .ok (.ifCond .ne (-15), 3) := by decide +kernel
theorem dX10_readsFactor_18 : decode cX10_readsFactor 18 = .ok (.iconst 0, 1) := by decide +kernel
theorem dX10_readsFactor_19 : decode cX10_readsFactor 19 = .ok (.ireturn, 1) := by decide +kernel
theorem dX10_readsFactor_20 : decode cX10_readsFactor 20 = .ok (.aload_n 0, 1) := by decide +kernel
theorem dX10_readsFactor_21 : decode cX10_readsFactor 21 = .ok (.invokevirtual 157, 3) := by decide +kernel
theorem dX10_readsFactor_24 : decode cX10_readsFactor 24 = .ok (.ifCond .eq 23, 3) := by decide +kernel
theorem dX10_readsFactor_27 : decode cX10_readsFactor 27 = .ok (.aload_n 0, 1) := by decide +kernel
theorem dX10_readsFactor_28 : decode cX10_readsFactor 28 = .ok (.invokevirtual 180, 3) := by decide +kernel
theorem dX10_readsFactor_31 : decode cX10_readsFactor 31 = .ok (.ifCond .ne 5, 3) := by decide +kernel
theorem dX10_readsFactor_34 : decode cX10_readsFactor 34 = .ok (.iconst 0, 1) := by decide +kernel
theorem dX10_readsFactor_35 : decode cX10_readsFactor 35 = .ok (.ireturn, 1) := by decide +kernel
theorem dX10_readsFactor_36 : decode cX10_readsFactor 36 = .ok (.aload_n 0, 1) := by decide +kernel
theorem dX10_readsFactor_37 : decode cX10_readsFactor 37 = .ok (.iconst 0, 1) := by decide +kernel
theorem dX10_readsFactor_38 : decode cX10_readsFactor 38 = .ok (.aload_n 0, 1) := by decide +kernel
theorem dX10_readsFactor_39 : decode cX10_readsFactor 39 = .ok (.getfield 154, 3) := by decide +kernel
theorem dX10_readsFactor_42 : decode cX10_readsFactor 42 = .ok (.invokevirtual 173, 3) := by decide +kernel
theorem dX10_readsFactor_45 : decode cX10_readsFactor 45 = .ok (.iconst 1, 1) := by decide +kernel
theorem dX10_readsFactor_46 : decode cX10_readsFactor 46 = .ok (.ireturn, 1) := by decide +kernel
theorem dX10_readsFactor_47 : decode cX10_readsFactor 47 = .ok (.aload_n 0, 1) := by decide +kernel
theorem dX10_readsFactor_48 : decode cX10_readsFactor 48 = .ok (.invokevirtual 144, 3) := by decide +kernel
theorem dX10_readsFactor_51 : decode cX10_readsFactor 51 = .ok (.invokestatic 183, 3) := by decide +kernel
theorem dX10_readsFactor_54 : decode cX10_readsFactor 54 = .ok (.istore_n 1, 1) := by decide +kernel
theorem dX10_readsFactor_55 : decode cX10_readsFactor 55 = .ok (.iload_n 1, 1) := by decide +kernel
theorem dX10_readsFactor_56 : decode cX10_readsFactor 56 = .ok (.iconst (-1), 1) := by decide +kernel
theorem dX10_readsFactor_57 : decode cX10_readsFactor 57 = .ok (.if_icmp .ne 13, 3) := by decide +kernel
theorem dX10_readsFactor_60 : decode cX10_readsFactor 60 = .ok (.aload_n 0, 1) := by decide +kernel
theorem dX10_readsFactor_61 : decode cX10_readsFactor 61 = .ok (.iconst 1, 1) := by decide +kernel
theorem dX10_readsFactor_62 : decode cX10_readsFactor 62 = .ok (.aload_n 0, 1) := by decide +kernel
theorem dX10_readsFactor_63 : decode cX10_readsFactor 63 = .ok (.getfield 138, 3) := by decide +kernel
theorem dX10_readsFactor_66 : decode cX10_readsFactor 66 = .ok (.invokevirtual 151, 3) := by decide +kernel
theorem dX10_readsFactor_69 : decode cX10_readsFactor 69 = .ok (.ireturn, 1) := by decide +kernel
theorem dX10_readsFactor_70 : decode cX10_readsFactor 70 = .ok (.aload_n 0, 1) := by decide +kernel
theorem dX10_readsFactor_71 : decode cX10_readsFactor 71 = .ok (.iconst 1, 1) := by decide +kernel
theorem dX10_readsFactor_72 : decode cX10_readsFactor 72 = .ok (.iload_n 1, 1) := by decide +kernel
theorem dX10_readsFactor_73 : decode cX10_readsFactor 73 = .ok (.invokevirtual 173, 3) := by decide +kernel
theorem dX10_readsFactor_76 : decode cX10_readsFactor 76 = .ok (.aload_n 0, 1) := by decide +kernel
theorem dX10_readsFactor_77 : decode cX10_readsFactor 77 = .ok (.aload_n 0, 1) := by decide +kernel
theorem dX10_readsFactor_78 : decode cX10_readsFactor 78 = .ok (.getfield 138, 3) := by decide +kernel
theorem dX10_readsFactor_81 : decode cX10_readsFactor 81 = .ok (.iconst 1, 1) := by decide +kernel
theorem dX10_readsFactor_82 : decode cX10_readsFactor 82 = .ok (.iadd, 1) := by decide +kernel
theorem dX10_readsFactor_83 : decode cX10_readsFactor 83 = .ok (.putfield 138, 3) := by decide +kernel
theorem dX10_readsFactor_86 : decode cX10_readsFactor 86 = .ok (.iconst 1, 1) := by decide +kernel
theorem dX10_readsFactor_87 : decode cX10_readsFactor 87 = .ok (.ireturn, 1) := by decide +kernel
theorem dX10_hasOpenSum_0 : decode cX10_hasOpenSum 0 = .ok (.iload_n 1, 1) := by decide +kernel
theorem dX10_hasOpenSum_1 : decode cX10_hasOpenSum 1 = .ok (.istore_n 2, 1) := by decide +kernel
theorem dX10_hasOpenSum_2 : decode cX10_hasOpenSum 2 = .ok (.iload_n 2, 1) := by decide +kernel
theorem dX10_hasOpenSum_3 : decode cX10_hasOpenSum 3 = .ok (.aload_n 0, 1) := by decide +kernel
theorem dX10_hasOpenSum_4 : decode cX10_hasOpenSum 4 = .ok (.getfield 167, 3) := by decide +kernel
theorem dX10_hasOpenSum_7 : decode cX10_hasOpenSum 7 = .ok (.if_icmp .ge 25, 3) := by decide +kernel
theorem dX10_hasOpenSum_10 : decode cX10_hasOpenSum 10 = .ok (.aload_n 0, 1) := by decide +kernel
theorem dX10_hasOpenSum_11 : decode cX10_hasOpenSum 11 = .ok (.getfield 35, 3) := by decide +kernel
theorem dX10_hasOpenSum_14 : decode cX10_hasOpenSum 14 = .ok (.iload_n 2, 1) := by decide +kernel
theorem dX10_hasOpenSum_15 : decode cX10_hasOpenSum 15 = .ok (.iaload, 1) := by decide +kernel
theorem dX10_hasOpenSum_16 : decode cX10_hasOpenSum 16 = .ok (.ldc 86, 2) := by decide +kernel
theorem dX10_hasOpenSum_18 : decode cX10_hasOpenSum 18 = .ok (.idiv, 1) := by decide +kernel
theorem dX10_hasOpenSum_19 : decode cX10_hasOpenSum 19 = .ok (.bipush 14, 2) := by decide +kernel
theorem dX10_hasOpenSum_21 : decode cX10_hasOpenSum 21 = .ok (.if_icmp .ne 5, 3) := by decide +kernel
theorem dX10_hasOpenSum_24 : decode cX10_hasOpenSum 24 = .ok (.iconst 1, 1) := by decide +kernel
theorem dX10_hasOpenSum_25 : decode cX10_hasOpenSum 25 = .ok (.ireturn, 1) := by decide +kernel
theorem dX10_hasOpenSum_26 : decode cX10_hasOpenSum 26 = .ok (.iinc 2 1, 3) := by decide +kernel
theorem dX10_hasOpenSum_29 : decode cX10_hasOpenSum 29 = .ok (.goto (-27), 3) := by decide +kernel
theorem dX10_hasOpenSum_32 : decode cX10_hasOpenSum 32 = .ok (.iconst 0, 1) := by decide +kernel
theorem dX10_hasOpenSum_33 : decode cX10_hasOpenSum 33 = .ok (.ireturn, 1) := by decide +kernel
set_option maxRecDepth 20000 in
theorem ggX10_readsSum_X10_readsFactor : GoodIn wsX10_readsSum wsX10_readsFactor := goodIn_r _ [10, 11, 4, 12, 13, 14, 9, 15, 16, 17, 18, 19, 20, 21, 5, 2, 1, 3, 22, 23, 24, 25, 26, 27, 28, 29, 30, 31, 32, 33, 34, 35, 36, 37, 38, 39, 40, 41, 42, 43, 59, 60, 61, 62, 63, 64, 65, 66, 67, 68, 69, 70, 71, 72, 73, 74, 75, 76, 77, 78, 79, 80, 81, 82, 83, 84, 85, 86, 87, 88, 89, 90, 91, 92, 93, 94, 95, 96, 97, 98, 99, 100, 101, 102, 103, 104, 105, 106, 107, 108, 109, 110] (by decide +kernel) (by decide +kernel)
set_option maxRecDepth 20000 in
theorem gX10_readsSum_X10_readsFactor : GoodIn wsX10_readsSum (wsV RX10 187 RX10 yX10_readsFactor wsX10_readsFactor) := goodIn_app (goodIn_of _ (by decide +kernel)) ggX10_readsSum_X10_readsFactor
set_option maxRecDepth 20000 in
theorem ggX10_readsSum_X10_here : GoodIn wsX10_readsSum wsX10_here := goodIn_r _ [15, 4, 16, 17, 59, 60, 61, 62, 63, 64, 65, 66, 67, 68, 69, 70, 71, 72, 73, 74, 75, 76, 77, 78, 79, 80, 81, 82, 83, 84, 85, 86, 87, 88, 89, 90, 91, 92, 93, 94, 95, 96, 97, 98, 99, 100, 101, 102, 103, 104, 105, 106, 107, 108, 109, 110] (by decide +kernel) (by decide +kernel)
set_option maxRecDepth 20000 in
theorem gX10_readsSum_X10_here : GoodIn wsX10_readsSum (wsV RX10 144 RX10 yX10_here wsX10_here) := goodIn_app (goodIn_of _ (by decide +kernel)) ggX10_readsSum_X10_here
set_option maxRecDepth 20000 in
theorem ggX10_readsSum_X10_sumSign : GoodIn wsX10_readsSum wsX10_sumSign := goodIn_r _ [46] (by decide +kernel) (by decide +kernel)
set_option maxRecDepth 20000 in
theorem gX10_readsSum_X10_sumSign : GoodIn wsX10_readsSum (va_wsS RX10 190 yX10_sumSign wsX10_sumSign) := goodIn_app (goodIn_of _ (by decide +kernel)) ggX10_readsSum_X10_sumSign
set_option maxRecDepth 20000 in
theorem ggX10_readsSum_X10_closesSums : GoodIn wsX10_readsSum wsX10_closesSums := goodIn_r _ [50, 1, 51, 52, 53, 9, 54, 2, 3, 35, 36, 37, 38, 39, 40, 59, 60, 61, 62, 63, 64, 65, 66, 67, 68, 69, 70, 71, 72, 73, 74, 75, 76, 77, 78, 79, 80, 81, 82, 83, 84, 85, 86, 87, 88, 89, 90, 91, 92, 93, 94, 95, 96, 97, 98, 99, 100, 101, 102, 103, 104, 105, 106, 107, 108, 109, 110] (by decide +kernel) (by decide +kernel)
set_option maxRecDepth 20000 in
theorem gX10_readsSum_X10_closesSums : GoodIn wsX10_readsSum (wsV RX10 193 RX10 yX10_closesSums wsX10_closesSums) := goodIn_app (goodIn_of _ (by decide +kernel)) ggX10_readsSum_X10_closesSums
set_option maxRecDepth 20000 in
theorem ggX10_readsSum_X10_hasOpenSum : GoodIn wsX10_readsSum wsX10_hasOpenSum := goodIn_r _ [58, 1, 2, 3, 59, 60, 61, 62, 63, 64, 65, 66, 67, 68, 69, 70, 71, 72, 73, 74, 75, 76, 77, 78, 79, 80, 81, 82, 83, 84, 85, 86, 87, 88, 89, 90, 91, 92, 93, 94, 95, 96, 97, 98, 99, 100, 101, 102, 103, 104, 105, 106, 107, 108, 109, 110] (by decide +kernel) (by decide +kernel)
set_option maxRecDepth 20000 in
theorem gX10_readsSum_X10_hasOpenSum : GoodIn wsX10_readsSum (wsV RX10 197 RX10 yX10_hasOpenSum wsX10_hasOpenSum) := goodIn_app (goodIn_of _ (by decide +kernel)) ggX10_readsSum_X10_hasOpenSum
set_option maxRecDepth 20000 in
theorem ggX10_readsSum_X10_wrongAt : GoodIn wsX10_readsSum wsX10_wrongAt := goodIn_r _ [25, 26, 59, 60, 61, 62, 63, 64, 65, 66, 67, 68, 69, 70, 71, 72, 73, 74, 75, 76, 77, 78, 79, 80, 81, 82, 83, 84, 85, 86, 87, 88, 89, 90, 91, 92, 93, 94, 95, 96, 97, 98, 99, 100, 101, 102, 103, 104, 105, 106, 107, 108, 109, 110] (by decide +kernel) (by decide +kernel)
set_option maxRecDepth 20000 in
theorem gX10_readsSum_X10_wrongAt : GoodIn wsX10_readsSum (wsV RX10 151 RX10 yX10_wrongAt wsX10_wrongAt) := goodIn_app (goodIn_of _ (by decide +kernel)) ggX10_readsSum_X10_wrongAt
theorem dX10_readsSum_0 : decode cX10_readsSum 0 = .ok (.aload_n 0, 1) := by decide +kernel
theorem dX10_readsSum_1 : decode cX10_readsSum 1 = .ok (.getfield 167, 3) := by decide +kernel
theorem dX10_readsSum_4 : decode cX10_readsSum 4 = .ok (.istore_n 1, 1) := by decide +kernel
theorem dX10_readsSum_5 : decode cX10_readsSum 5 = .ok (.aload_n 0, 1) := by decide +kernel
theorem dX10_readsSum_6 : decode cX10_readsSum 6 = .ok (.invokevirtual 187, 3) := by decide +kernel
theorem dX10_readsSum_9 : decode cX10_readsSum 9 = .ok (.ifCond .ne 5, 3) := by decide +kernel
theorem dX10_readsSum_12 : decode cX10_readsSum 12 = .ok (.iconst 0, 1) := by decide +kernel
theorem dX10_readsSum_13 : decode cX10_readsSum 13 = .ok (.ireturn, 1) := by decide +kernel
theorem dX10_readsSum_14 : decode cX10_readsSum 14 = .ok (.aload_n 0, 1) := by decide +kernel
theorem dX10_readsSum_15 : decode cX10_readsSum 15 = .ok (.invokevirtual 144, 3) := by decide +kernel
theorem dX10_readsSum_18 : decode cX10_readsSum 18 = .ok (.invokestatic 190, 3) := by decide +kernel
theorem dX10_readsSum_21 : decode cX10_readsSum 21 = .ok (.istore_n 2, 1) := by decide +kernel
theorem dX10_readsSum_22 : decode cX10_readsSum 22 = .ok (.iload_n 2, 1) := by decide +kernel
theorem dX10_readsSum_23 : decode cX10_readsSum 23 = .ok (.iconst (-1), 1) := by decide +kernel
theorem dX10_readsSum_24 : decode cX10_readsSum 24 = .ok (.if_icmp .eq 59, 3) := by decide +kernel
theorem dX10_readsSum_27 : decode cX10_readsSum 27 = .ok (.aload_n 0, 1) := by decide +kernel
theorem dX10_readsSum_28 : decode cX10_readsSum 28 = .ok (.iload_n 2, 1) := by decide +kernel
theorem dX10_readsSum_29 : decode cX10_readsSum 29 = .ok (.iconst 4, 1) := by decide +kernel
theorem dX10_readsSum_30 : decode cX10_readsSum 30 = .ok (.if_icmp .ge 7, 3) := by decide +kernel
theorem dX10_readsSum_33 : decode cX10_readsSum 33 = .ok (.iconst 1, 1) := by decide +kernel
theorem dX10_readsSum_34 : decode cX10_readsSum 34 = .ok (.goto 4, 3) := by decide +kernel
theorem dX10_readsSum_37 : decode cX10_readsSum 37 = .ok (.iconst 0, 1) := by decide +kernel
theorem dX10_readsSum_38 : decode cX10_readsSum 38 = .ok (.invokevirtual 193, 3) := by decide +kernel
theorem dX10_readsSum_41 : decode cX10_readsSum 41 = .ok (.aload_n 0, 1) := by decide +kernel
theorem dX10_readsSum_42 : decode cX10_readsSum 42 = .ok (.getfield 35, 3) := by decide +kernel
theorem dX10_readsSum_45 : decode cX10_readsSum 45 = .ok (.aload_n 0, 1) := by decide +kernel
theorem dX10_readsSum_46 : decode cX10_readsSum 46 = .ok (.getfield 167, 3) := by decide +kernel
theorem dX10_readsSum_49 : decode cX10_readsSum 49 = .ok (.ldc 86, 2) := by decide +kernel
theorem dX10_readsSum_51 : decode cX10_readsSum 51 = .ok (.iload_n 2, 1) := by decide +kernel
theorem dX10_readsSum_52 : decode cX10_readsSum 52 = .ok (.imul, 1) := by decide +kernel
theorem dX10_readsSum_53 : decode cX10_readsSum 53 = .ok (.iastore, 1) := by decide +kernel
theorem dX10_readsSum_54 : decode cX10_readsSum 54 = .ok (.aload_n 0, 1) := by decide +kernel
theorem dX10_readsSum_55 : decode cX10_readsSum 55 = .ok (.aload_n 0, 1) := by decide +kernel
theorem dX10_readsSum_56 : decode cX10_readsSum 56 = .ok (.getfield 167, 3) := by decide +kernel
theorem dX10_readsSum_59 : decode cX10_readsSum 59 = .ok (.iconst 1, 1) := by decide +kernel
theorem dX10_readsSum_60 : decode cX10_readsSum 60 = .ok (.iadd, 1) := by decide +kernel
theorem dX10_readsSum_61 : decode cX10_readsSum 61 = .ok (.putfield 167, 3) := by decide +kernel
theorem dX10_readsSum_64 : decode cX10_readsSum 64 = .ok (.aload_n 0, 1) := by decide +kernel
theorem dX10_readsSum_65 : decode cX10_readsSum 65 = .ok (.aload_n 0, 1) := by decide +kernel
theorem dX10_readsSum_66 : decode cX10_readsSum 66 = .ok (.getfield 138, 3) := by decide +kernel
theorem dX10_readsSum_69 : decode cX10_readsSum 69 = .ok (.iconst 1, 1) := by decide +kernel
theorem dX10_readsSum_70 : decode cX10_readsSum 70 = .ok (.iadd, 1) := by decide +kernel
theorem dX10_readsSum_71 : decode cX10_readsSum 71 = .ok (.putfield 138, 3) := by decide +kernel
theorem dX10_readsSum_74 : decode cX10_readsSum 74 = .ok (.aload_n 0, 1) := by decide +kernel
theorem dX10_readsSum_75 : decode cX10_readsSum 75 = .ok (.invokevirtual 187, 3) := by decide +kernel
theorem dX10_readsSum_78 : decode cX10_readsSum 78 = .ok (.ifCond .ne 85, 3) := by decide +kernel
theorem dX10_readsSum_81 : decode cX10_readsSum 81 = .ok (.iconst 0, 1) := by decide +kernel
theorem dX10_readsSum_82 : decode cX10_readsSum 82 = .ok (.ireturn, 1) := by decide +kernel
theorem dX10_readsSum_83 : decode cX10_readsSum 83 = .ok (.aload_n 0, 1) := by decide +kernel
theorem dX10_readsSum_84 : decode cX10_readsSum 84 = .ok (.invokevirtual 144, 3) := by decide +kernel
theorem dX10_readsSum_87 : decode cX10_readsSum 87 = .ok (.bipush 93, 2) := by decide +kernel
theorem dX10_readsSum_89 : decode cX10_readsSum 89 = .ok (.if_icmp .ne 49, 3) := by decide +kernel
theorem dX10_readsSum_92 : decode cX10_readsSum 92 = .ok (.aload_n 0, 1) := by decide +kernel
theorem dX10_readsSum_93 : decode cX10_readsSum 93 = .ok (.iload_n 1, 1) := by decide +kernel
theorem dX10_readsSum_94 : decode cX10_readsSum 94 = .ok (.invokevirtual 197, 3) := by decide +kernel
theorem dX10_readsSum_97 : decode cX10_readsSum 97 = .ok (.ifCond .eq 41, 3) := by decide +kernel
theorem dX10_readsSum_100 : decode cX10_readsSum 100 = .ok (.aload_n 0, 1) := by decide +kernel
theorem dX10_readsSum_101 : decode cX10_readsSum 101 = .ok (.iconst 1, 1) := by decide +kernel
theorem dX10_readsSum_102 : decode cX10_readsSum 102 = .ok (.invokevirtual 193, 3) := by decide +kernel
theorem dX10_readsSum_105 : decode cX10_readsSum 105 = .ok (.aload_n 0, 1) := by decide +kernel
theorem dX10_readsSum_106 : decode cX10_readsSum 106 = .ok (.aload_n 0, 1) := by decide +kernel
theorem dX10_readsSum_107 : decode cX10_readsSum 107 = .ok (.getfield 167, 3) := by decide +kernel
theorem dX10_readsSum_110 : decode cX10_readsSum 110 = .ok (.iconst 1, 1) := by decide +kernel
theorem dX10_readsSum_111 : decode cX10_readsSum 111 = .ok (.isub, 1) := by decide +kernel
theorem dX10_readsSum_112 : decode cX10_readsSum 112 = .ok (.putfield 167, 3) := by decide +kernel
theorem dX10_readsSum_115 : decode cX10_readsSum 115 = .ok (.aload_n 0, 1) := by decide +kernel
theorem dX10_readsSum_116 : decode cX10_readsSum 116 = .ok (.aload_n 0, 1) := by decide +kernel
theorem dX10_readsSum_117 : decode cX10_readsSum 117 = .ok (.getfield 164, 3) := by decide +kernel
theorem dX10_readsSum_120 : decode cX10_readsSum 120 = .ok (.iconst 1, 1) := by decide +kernel
theorem dX10_readsSum_121 : decode cX10_readsSum 121 = .ok (.isub, 1) := by decide +kernel
theorem dX10_readsSum_122 : decode cX10_readsSum 122 = .ok (.putfield 164, 3) := by decide +kernel
theorem dX10_readsSum_125 : decode cX10_readsSum 125 = .ok (.aload_n 0, 1) := by decide +kernel
theorem dX10_readsSum_126 : decode cX10_readsSum 126 = .ok (.aload_n 0, 1) := by decide +kernel
theorem dX10_readsSum_127 : decode cX10_readsSum 127 = .ok (.getfield 138, 3) := by decide +kernel
theorem dX10_readsSum_130 : decode cX10_readsSum 130 = .ok (.iconst 1, 1) := by decide +kernel
theorem dX10_readsSum_131 : decode cX10_readsSum 131 = .ok (.iadd, 1) := by decide +kernel
theorem dX10_readsSum_132 : decode cX10_readsSum 132 = .ok (.putfield 138, 3) := by decide +kernel
theorem dX10_readsSum_135 : decode cX10_readsSum 135 = .ok (.goto 28, 3) := by decide +kernel
theorem dX10_readsSum_138 : decode cX10_readsSum 138 = .ok (.aload_n 0, 1) := by decide +kernel
theorem dX10_readsSum_139 : decode cX10_readsSum 139 = .ok (.iload_n 1, 1) := by decide +kernel
theorem dX10_readsSum_140 : decode cX10_readsSum 140 = .ok (.invokevirtual 197, 3) := by decide +kernel
theorem dX10_readsSum_143 : decode cX10_readsSum 143 = .ok (.ifCond .eq 13, 3) := by decide +kernel
theorem dX10_readsSum_146 : decode cX10_readsSum 146 = .ok (.aload_n 0, 1) := by decide +kernel
theorem dX10_readsSum_147 : decode cX10_readsSum 147 = .ok (.iconst 1, 1) := by decide +kernel
theorem dX10_readsSum_148 : decode cX10_readsSum 148 = .ok (.aload_n 0, 1) := by decide +kernel
theorem dX10_readsSum_149 : decode cX10_readsSum 149 = .ok (.getfield 138, 3) := by decide +kernel
theorem dX10_readsSum_152 : decode cX10_readsSum 152 = .ok (.invokevirtual 151, 3) := by decide +kernel
theorem dX10_readsSum_155 : decode cX10_readsSum 155 = .ok (.ireturn, 1) := by decide +kernel
theorem dX10_readsSum_156 : decode cX10_readsSum 156 = .ok (.aload_n 0, 1) := by decide +kernel
theorem dX10_readsSum_157 : decode cX10_readsSum 157 = .ok (.iconst 1, 1) := by decide +kernel
theorem dX10_readsSum_158 : decode cX10_readsSum 158 = .ok (.invokevirtual 193, 3) := by decide +kernel
theorem dX10_readsSum_161 : decode cX10_readsSum 161 = .ok (.iconst 1, 1) := by decide +kernel
theorem dX10_readsSum_162 : decode cX10_readsSum 162 = .ok (.ireturn, 1) := by decide +kernel
theorem dX10_readsSum_163 : decode cX10_readsSum 163 = .ok (.goto (-149), 3) := by decide +kernel
set_option maxRecDepth 20000 in
theorem ggX10_endsPiece_X10_waitTop : GoodIn wsX10_endsPiece wsX10_waitTop := goodIn_r _ [7, 1, 8, 9, 16, 17, 18, 19, 20, 21, 22, 23, 24, 25, 26, 27, 28, 29, 30, 31, 32, 33, 34, 35, 36, 37, 38, 39, 40, 41, 42, 43, 44, 45, 46, 47, 48, 49, 50, 51, 52, 53, 54, 55, 56, 57, 58, 59, 60, 61, 62, 63, 64, 65, 66, 67] (by decide +kernel) (by decide +kernel)
set_option maxRecDepth 20000 in
theorem gX10_endsPiece_X10_waitTop : GoodIn wsX10_endsPiece (wsV RX10 170 RX10 yX10_waitTop wsX10_waitTop) := goodIn_app (goodIn_of _ (by decide +kernel)) ggX10_endsPiece_X10_waitTop
set_option maxRecDepth 20000 in
theorem ggX10_endsPiece_X10_notes : GoodIn wsX10_endsPiece wsX10_notes := goodIn_r _ [13, 14, 15, 9, 16, 17, 18, 19, 20, 21, 22, 23, 24, 25, 26, 27, 28, 29, 30, 31, 32, 33, 34, 35, 36, 37, 38, 39, 40, 41, 42, 43, 44, 45, 46, 47, 48, 49, 50, 51, 52, 53, 54, 55, 56, 57, 58, 59, 60, 61, 62, 63, 64, 65, 66, 67] (by decide +kernel) (by decide +kernel)
set_option maxRecDepth 20000 in
theorem gX10_endsPiece_X10_notes : GoodIn wsX10_endsPiece (wsV RX10 173 RX10 yX10_notes wsX10_notes) := goodIn_app (goodIn_of _ (by decide +kernel)) ggX10_endsPiece_X10_notes
theorem dX10_endsPiece_0 : decode cX10_endsPiece 0 = .ok (.aload_n 0, 1) := by decide +kernel
theorem dX10_endsPiece_1 : decode cX10_endsPiece 1 = .ok (.invokevirtual 170, 3) := by decide +kernel
theorem dX10_endsPiece_4 : decode cX10_endsPiece 4 = .ok (.bipush 10, 2) := by decide +kernel
theorem dX10_endsPiece_6 : decode cX10_endsPiece 6 = .ok (.if_icmp .ne 33, 3) := by decide +kernel
theorem dX10_endsPiece_9 : decode cX10_endsPiece 9 = .ok (.aload_n 0, 1) := by decide +kernel
theorem dX10_endsPiece_10 : decode cX10_endsPiece 10 = .ok (.bipush 10, 2) := by decide +kernel
theorem dX10_endsPiece_12 : decode cX10_endsPiece 12 = .ok (.iconst 0, 1) := by decide +kernel
theorem dX10_endsPiece_13 : decode cX10_endsPiece 13 = .ok (.invokevirtual 173, 3) := by decide +kernel
theorem dX10_endsPiece_16 : decode cX10_endsPiece 16 = .ok (.aload_n 0, 1) := by decide +kernel
theorem dX10_endsPiece_17 : decode cX10_endsPiece 17 = .ok (.aload_n 0, 1) := by decide +kernel
theorem dX10_endsPiece_18 : decode cX10_endsPiece 18 = .ok (.getfield 167, 3) := by decide +kernel
theorem dX10_endsPiece_21 : decode cX10_endsPiece 21 = .ok (.iconst 1, 1) := by decide +kernel
theorem dX10_endsPiece_22 : decode cX10_endsPiece 22 = .ok (.isub, 1) := by decide +kernel
theorem dX10_endsPiece_23 : decode cX10_endsPiece 23 = .ok (.putfield 167, 3) := by decide +kernel
theorem dX10_endsPiece_26 : decode cX10_endsPiece 26 = .ok (.aload_n 0, 1) := by decide +kernel
theorem dX10_endsPiece_27 : decode cX10_endsPiece 27 = .ok (.aload_n 0, 1) := by decide +kernel
theorem dX10_endsPiece_28 : decode cX10_endsPiece 28 = .ok (.getfield 164, 3) := by decide +kernel
theorem dX10_endsPiece_31 : decode cX10_endsPiece 31 = .ok (.iconst 1, 1) := by decide +kernel
theorem dX10_endsPiece_32 : decode cX10_endsPiece 32 = .ok (.isub, 1) := by decide +kernel
theorem dX10_endsPiece_33 : decode cX10_endsPiece 33 = .ok (.putfield 164, 3) := by decide +kernel
theorem dX10_endsPiece_36 : decode cX10_endsPiece 36 = .ok (.goto (-36), 3) := by decide +kernel
theorem dX10_endsPiece_39 : decode cX10_endsPiece 39 = .ok (.return_, 1) := by decide +kernel
set_option maxRecDepth 20000 in
theorem ggX10_lands_X10_waitTop : GoodIn wsX10_lands wsX10_waitTop := goodIn_r _ [10, 2, 1, 3, 11, 12, 13, 14, 15, 16, 17, 18, 19, 20, 21, 22, 23, 24, 25, 26, 27, 28, 29, 30, 31, 32, 33, 34, 35, 36, 37, 38, 39, 40, 41, 42, 43, 44, 45, 46, 47, 48, 49, 50, 51, 52, 53, 54, 55, 56, 57, 58, 59, 60, 61, 62] (by decide +kernel) (by decide +kernel)
set_option maxRecDepth 20000 in
theorem gX10_lands_X10_waitTop : GoodIn wsX10_lands (wsV RX10 170 RX10 yX10_waitTop wsX10_waitTop) := goodIn_app (goodIn_of _ (by decide +kernel)) ggX10_lands_X10_waitTop
theorem dX10_lands_0 : decode cX10_lands 0 = .ok (.aload_n 0, 1) := by decide +kernel
theorem dX10_lands_1 : decode cX10_lands 1 = .ok (.invokevirtual 170, 3) := by decide +kernel
theorem dX10_lands_4 : decode cX10_lands 4 = .ok (.bipush 11, 2) := by decide +kernel
theorem dX10_lands_6 : decode cX10_lands 6 = .ok (.if_icmp .eq 16, 3) := by decide +kernel
theorem dX10_lands_9 : decode cX10_lands 9 = .ok (.iload_n 1, 1) := by decide +kernel
theorem dX10_lands_10 : decode cX10_lands 10 = .ok (.ifCond .eq 63, 3) := by decide +kernel
theorem dX10_lands_13 : decode cX10_lands 13 = .ok (.aload_n 0, 1) := by decide +kernel
theorem dX10_lands_14 : decode cX10_lands 14 = .ok (.invokevirtual 170, 3) := by decide +kernel
theorem dX10_lands_17 : decode cX10_lands 17 = .ok (.bipush 12, 2) := by decide +kernel
theorem dX10_lands_19 : decode cX10_lands 19 = .ok (.if_icmp .ne 54, 3) := by decide +kernel
theorem dX10_lands_22 : decode cX10_lands 22 = .ok (.aload_n 0, 1) := by decide +kernel
theorem dX10_lands_23 : decode cX10_lands 23 = .ok (.getfield 35, 3) := by decide +kernel
theorem dX10_lands_26 : decode cX10_lands 26 = .ok (.aload_n 0, 1) := by decide +kernel
theorem dX10_lands_27 : decode cX10_lands 27 = .ok (.getfield 167, 3) := by decide +kernel
theorem dX10_lands_30 : decode cX10_lands 30 = .ok (.iconst 1, 1) := by decide +kernel
theorem dX10_lands_31 : decode cX10_lands 31 = .ok (.isub, 1) := by decide +kernel
theorem dX10_lands_32 : decode cX10_lands 32 = .ok (.iaload, 1) := by decide +kernel
theorem dX10_lands_33 : decode cX10_lands 33 = .ok (.ldc 86, 2) := by decide +kernel
theorem dX10_lands_35 : decode cX10_lands 35 = .ok (.irem, 1) := by decide +kernel
theorem dX10_lands_36 : decode cX10_lands 36 = .ok (.istore_n 2, 1) := by decide +kernel
theorem dX10_lands_37 : decode cX10_lands 37 = .ok (.aload_n 0, 1) := by decide +kernel
theorem dX10_lands_38 : decode cX10_lands 38 = .ok (.getfield 32, 3) := by decide +kernel
theorem dX10_lands_41 : decode cX10_lands 41 = .ok (.iload_n 2, 1) := by decide +kernel
theorem dX10_lands_42 : decode cX10_lands 42 = .ok (.ldc 86, 2) := by decide +kernel
theorem dX10_lands_44 : decode cX10_lands 44 = .ok (.aload_n 0, 1) := by decide +kernel
theorem dX10_lands_45 : decode cX10_lands 45 = .ok (.getfield 32, 3) := by decide +kernel
theorem dX10_lands_48 : decode cX10_lands 48 = .ok (.iload_n 2, 1) := by decide +kernel
theorem dX10_lands_49 : decode cX10_lands 49 = .ok (.iaload, 1) := by decide +kernel
theorem dX10_lands_50 : decode cX10_lands 50 = .ok (.ldc 86, 2) := by decide +kernel
theorem dX10_lands_52 : decode cX10_lands 52 = .ok (.idiv, 1) := by decide +kernel
theorem dX10_lands_53 : decode cX10_lands 53 = .ok (.imul, 1) := by decide +kernel
theorem dX10_lands_54 : decode cX10_lands 54 = .ok (.aload_n 0, 1) := by decide +kernel
theorem dX10_lands_55 : decode cX10_lands 55 = .ok (.getfield 161, 3) := by decide +kernel
theorem dX10_lands_58 : decode cX10_lands 58 = .ok (.iadd, 1) := by decide +kernel
theorem dX10_lands_59 : decode cX10_lands 59 = .ok (.iastore, 1) := by decide +kernel
theorem dX10_lands_60 : decode cX10_lands 60 = .ok (.aload_n 0, 1) := by decide +kernel
theorem dX10_lands_61 : decode cX10_lands 61 = .ok (.aload_n 0, 1) := by decide +kernel
theorem dX10_lands_62 : decode cX10_lands 62 = .ok (.getfield 167, 3) := by decide +kernel
theorem dX10_lands_65 : decode cX10_lands 65 = .ok (.iconst 1, 1) := by decide +kernel
theorem dX10_lands_66 : decode cX10_lands 66 = .ok (.isub, 1) := by decide +kernel
theorem dX10_lands_67 : decode cX10_lands 67 = .ok (.putfield 167, 3) := by decide +kernel
theorem dX10_lands_70 : decode cX10_lands 70 = .ok (.goto (-70), 3) := by decide +kernel
theorem dX10_lands_73 : decode cX10_lands 73 = .ok (.return_, 1) := by decide +kernel
set_option maxRecDepth 20000 in
theorem ggX10_jumps_X10_notes : GoodIn wsX10_jumps wsX10_notes := goodIn_r _ [10, 11, 4, 3, 12, 13, 14, 15, 16, 17, 18, 19, 20, 21, 22, 23, 24, 25, 26, 27, 28, 29, 30, 31, 32, 33, 34, 35, 36, 37, 38, 39, 40, 41, 42, 43, 44, 45, 46, 47, 48, 49, 50, 51, 52, 53, 54, 55, 56, 57, 58, 59, 60, 61, 62, 63] (by decide +kernel) (by decide +kernel)
set_option maxRecDepth 20000 in
theorem gX10_jumps_X10_notes : GoodIn wsX10_jumps (wsV RX10 173 RX10 yX10_notes wsX10_notes) := goodIn_app (goodIn_of _ (by decide +kernel)) ggX10_jumps_X10_notes
theorem dX10_jumps_0 : decode cX10_jumps 0 = .ok (.aload_n 0, 1) := by decide +kernel
theorem dX10_jumps_1 : decode cX10_jumps 1 = .ok (.getfield 35, 3) := by decide +kernel
theorem dX10_jumps_4 : decode cX10_jumps 4 = .ok (.aload_n 0, 1) := by decide +kernel
theorem dX10_jumps_5 : decode cX10_jumps 5 = .ok (.getfield 167, 3) := by decide +kernel
theorem dX10_jumps_8 : decode cX10_jumps 8 = .ok (.ldc 86, 2) := by decide +kernel
theorem dX10_jumps_10 : decode cX10_jumps 10 = .ok (.iload_n 1, 1) := by decide +kernel
theorem dX10_jumps_11 : decode cX10_jumps 11 = .ok (.imul, 1) := by decide +kernel
theorem dX10_jumps_12 : decode cX10_jumps 12 = .ok (.aload_n 0, 1) := by decide +kernel
theorem dX10_jumps_13 : decode cX10_jumps 13 = .ok (.getfield 161, 3) := by decide +kernel
theorem dX10_jumps_16 : decode cX10_jumps 16 = .ok (.iadd, 1) := by decide +kernel
theorem dX10_jumps_17 : decode cX10_jumps 17 = .ok (.iastore, 1) := by decide +kernel
theorem dX10_jumps_18 : decode cX10_jumps 18 = .ok (.aload_n 0, 1) := by decide +kernel
theorem dX10_jumps_19 : decode cX10_jumps 19 = .ok (.aload_n 0, 1) := by decide +kernel
theorem dX10_jumps_20 : decode cX10_jumps 20 = .ok (.getfield 167, 3) := by decide +kernel
theorem dX10_jumps_23 : decode cX10_jumps 23 = .ok (.iconst 1, 1) := by decide +kernel
theorem dX10_jumps_24 : decode cX10_jumps 24 = .ok (.iadd, 1) := by decide +kernel
theorem dX10_jumps_25 : decode cX10_jumps 25 = .ok (.putfield 167, 3) := by decide +kernel
theorem dX10_jumps_28 : decode cX10_jumps 28 = .ok (.aload_n 0, 1) := by decide +kernel
theorem dX10_jumps_29 : decode cX10_jumps 29 = .ok (.iload_n 1, 1) := by decide +kernel
theorem dX10_jumps_30 : decode cX10_jumps 30 = .ok (.iconst 0, 1) := by decide +kernel
theorem dX10_jumps_31 : decode cX10_jumps 31 = .ok (.invokevirtual 173, 3) := by decide +kernel
theorem dX10_jumps_34 : decode cX10_jumps 34 = .ok (.aload_n 0, 1) := by decide +kernel
theorem dX10_jumps_35 : decode cX10_jumps 35 = .ok (.aload_n 0, 1) := by decide +kernel
theorem dX10_jumps_36 : decode cX10_jumps 36 = .ok (.getfield 138, 3) := by decide +kernel
theorem dX10_jumps_39 : decode cX10_jumps 39 = .ok (.iconst 1, 1) := by decide +kernel
theorem dX10_jumps_40 : decode cX10_jumps 40 = .ok (.iadd, 1) := by decide +kernel
theorem dX10_jumps_41 : decode cX10_jumps 41 = .ok (.putfield 138, 3) := by decide +kernel
theorem dX10_jumps_44 : decode cX10_jumps 44 = .ok (.return_, 1) := by decide +kernel
set_option maxRecDepth 20000 in
theorem ggX10_readsCompared_X10_readsSum : GoodIn wsX10_readsCompared wsX10_readsSum := goodIn_r _ [6, 7, 8, 9, 1, 10, 11, 12, 13, 5, 14, 15, 16, 17, 18, 19, 20, 21, 22, 23, 24, 25, 26, 27, 28, 29, 30, 31, 32, 33, 34, 35, 36, 37, 38, 39, 40, 41, 42, 43, 44, 45, 46, 47, 48, 49, 50, 51, 52, 53, 54, 55, 56, 57, 58, 59, 60, 61, 62, 67, 68, 69, 70, 71, 72, 73, 74, 75, 76, 77, 78, 79, 80, 81, 82, 83, 84, 85, 86, 87, 88, 89, 90, 91, 92, 93, 94, 95, 96, 97, 98, 99, 100, 101, 102, 103, 104, 105, 106, 107, 108, 109, 110, 111, 112, 113, 114, 115, 116, 117, 118] (by decide +kernel) (by decide +kernel)
set_option maxRecDepth 20000 in
theorem gX10_readsCompared_X10_readsSum : GoodIn wsX10_readsCompared (wsV RX10 200 RX10 yX10_readsSum wsX10_readsSum) := goodIn_app (goodIn_of _ (by decide +kernel)) ggX10_readsCompared_X10_readsSum
set_option maxRecDepth 20000 in
theorem ggX10_readsCompared_X10_here : GoodIn wsX10_readsCompared wsX10_here := goodIn_r _ [19, 1, 20, 21, 67, 68, 69, 70, 71, 72, 73, 74, 75, 76, 77, 78, 79, 80, 81, 82, 83, 84, 85, 86, 87, 88, 89, 90, 91, 92, 93, 94, 95, 96, 97, 98, 99, 100, 101, 102, 103, 104, 105, 106, 107, 108, 109, 110, 111, 112, 113, 114, 115, 116, 117, 118] (by decide +kernel) (by decide +kernel)
set_option maxRecDepth 20000 in
theorem gX10_readsCompared_X10_here : GoodIn wsX10_readsCompared (wsV RX10 144 RX10 yX10_here wsX10_here) := goodIn_app (goodIn_of _ (by decide +kernel)) ggX10_readsCompared_X10_here
set_option maxRecDepth 20000 in
theorem ggX10_readsCompared_X10_wrongAt : GoodIn wsX10_readsCompared wsX10_wrongAt := goodIn_r _ [29, 30, 67, 68, 69, 70, 71, 72, 73, 74, 75, 76, 77, 78, 79, 80, 81, 82, 83, 84, 85, 86, 87, 88, 89, 90, 91, 92, 93, 94, 95, 96, 97, 98, 99, 100, 101, 102, 103, 104, 105, 106, 107, 108, 109, 110, 111, 112, 113, 114, 115, 116, 117, 118] (by decide +kernel) (by decide +kernel)
set_option maxRecDepth 20000 in
theorem gX10_readsCompared_X10_wrongAt : GoodIn wsX10_readsCompared (wsV RX10 151 RX10 yX10_wrongAt wsX10_wrongAt) := goodIn_app (goodIn_of _ (by decide +kernel)) ggX10_readsCompared_X10_wrongAt
set_option maxRecDepth 20000 in
theorem ggX10_readsCompared_X10_notes : GoodIn wsX10_readsCompared wsX10_notes := goodIn_r _ [42, 43, 44, 9, 67, 68, 69, 70, 71, 72, 73, 74, 75, 76, 77, 78, 79, 80, 81, 82, 83, 84, 85, 86, 87, 88, 89, 90, 91, 92, 93, 94, 95, 96, 97, 98, 99, 100, 101, 102, 103, 104, 105, 106, 107, 108, 109, 110, 111, 112, 113, 114, 115, 116, 117, 118] (by decide +kernel) (by decide +kernel)
set_option maxRecDepth 20000 in
theorem gX10_readsCompared_X10_notes : GoodIn wsX10_readsCompared (wsV RX10 173 RX10 yX10_notes wsX10_notes) := goodIn_app (goodIn_of _ (by decide +kernel)) ggX10_readsCompared_X10_notes
set_option maxRecDepth 20000 in
theorem ggX10_readsCompared_X10_endsPiece : GoodIn wsX10_readsCompared wsX10_endsPiece := goodIn_r _ [66, 7, 10, 55, 56, 57, 5, 58, 8, 9, 39, 40, 41, 42, 43, 44, 67, 68, 69, 70, 71, 72, 73, 74, 75, 76, 77, 78, 79, 80, 81, 82, 83, 84, 85, 86, 87, 88, 89, 90, 91, 92, 93, 94, 95, 96, 97, 98, 99, 100, 101, 102, 103, 104, 105, 106, 107, 108, 109, 110, 111, 112, 113, 114, 115, 116, 117, 118] (by decide +kernel) (by decide +kernel)
set_option maxRecDepth 20000 in
theorem gX10_readsCompared_X10_endsPiece : GoodIn wsX10_readsCompared (wsV RX10 203 RX10 yX10_endsPiece wsX10_endsPiece) := goodIn_app (goodIn_of _ (by decide +kernel)) ggX10_readsCompared_X10_endsPiece
theorem dX10_readsCompared_0 : decode cX10_readsCompared 0 = .ok (.aload_n 0, 1) := by decide +kernel
theorem dX10_readsCompared_1 : decode cX10_readsCompared 1 = .ok (.invokevirtual 200, 3) := by decide +kernel
theorem dX10_readsCompared_4 : decode cX10_readsCompared 4 = .ok (.ifCond .ne 5, 3) := by decide +kernel
theorem dX10_readsCompared_7 : decode cX10_readsCompared 7 = .ok (.iconst 0, 1) := by decide +kernel
theorem dX10_readsCompared_8 : decode cX10_readsCompared 8 = .ok (.ireturn, 1) := by decide +kernel
theorem dX10_readsCompared_9 : decode cX10_readsCompared 9 = .ok (.aload_n 0, 1) := by decide +kernel
theorem dX10_readsCompared_10 : decode cX10_readsCompared 10 = .ok (.invokevirtual 144, 3) := by decide +kernel
theorem dX10_readsCompared_13 : decode cX10_readsCompared 13 = .ok (.bipush 60, 2) := by decide +kernel
theorem dX10_readsCompared_15 : decode cX10_readsCompared 15 = .ok (.if_icmp .ne 8, 3) := by decide +kernel
theorem dX10_readsCompared_18 : decode cX10_readsCompared 18 = .ok (.bipush 7, 2) := by decide +kernel
theorem dX10_readsCompared_20 : decode cX10_readsCompared 20 = .ok (.goto 32, 3) := by decide +kernel
theorem dX10_readsCompared_23 : decode cX10_readsCompared 23 = .ok (.aload_n 0, 1) := by decide +kernel
theorem dX10_readsCompared_24 : decode cX10_readsCompared 24 = .ok (.invokevirtual 144, 3) := by decide +kernel
theorem dX10_readsCompared_27 : decode cX10_readsCompared 27 = .ok (.bipush 62, 2) := by decide +kernel
theorem dX10_readsCompared_29 : decode cX10_readsCompared 29 = .ok (.if_icmp .ne 8, 3) := by decide +kernel
theorem dX10_readsCompared_32 : decode cX10_readsCompared 32 = .ok (.bipush 8, 2) := by decide +kernel
theorem dX10_readsCompared_34 : decode cX10_readsCompared 34 = .ok (.goto 18, 3) := by decide +kernel
theorem dX10_readsCompared_37 : decode cX10_readsCompared 37 = .ok (.aload_n 0, 1) := by decide +kernel
theorem dX10_readsCompared_38 : decode cX10_readsCompared 38 = .ok (.invokevirtual 144, 3) := by decide +kernel
theorem dX10_readsCompared_41 : decode cX10_readsCompared 41 = .ok (.bipush 61, 2) := by decide +kernel
theorem dX10_readsCompared_43 : decode cX10_readsCompared 43 = .ok (.if_icmp .ne 8, 3) := by decide +kernel
theorem dX10_readsCompared_46 : decode cX10_readsCompared 46 = .ok (.bipush 9, 2) := by decide +kernel
theorem dX10_readsCompared_48 : decode cX10_readsCompared 48 = .ok (.goto 4, 3) := by decide +kernel
theorem dX10_readsCompared_51 : decode cX10_readsCompared 51 = .ok (.iconst (-1), 1) := by decide +kernel
theorem dX10_readsCompared_52 : decode cX10_readsCompared 52 = .ok (.istore_n 1, 1) := by decide +kernel
theorem dX10_readsCompared_53 : decode cX10_readsCompared 53 = .ok (.iload_n 1, 1) := by decide +kernel
theorem dX10_readsCompared_54 : decode cX10_readsCompared 54 = .ok (.iconst (-1), 1) := by decide +kernel
theorem dX10_readsCompared_55 : decode cX10_readsCompared 55 = .ok (.if_icmp .ne 13, 3) := by decide +kernel
theorem dX10_readsCompared_58 : decode cX10_readsCompared 58 = .ok (.aload_n 0, 1) := by decide +kernel
theorem dX10_readsCompared_59 : decode cX10_readsCompared 59 = .ok (.iconst 1, 1) := by decide +kernel
theorem dX10_readsCompared_60 : decode cX10_readsCompared 60 = .ok (.aload_n 0, 1) := by decide +kernel
theorem dX10_readsCompared_61 : decode cX10_readsCompared 61 = .ok (.getfield 138, 3) := by decide +kernel
theorem dX10_readsCompared_64 : decode cX10_readsCompared 64 = .ok (.invokevirtual 151, 3) := by decide +kernel
theorem dX10_readsCompared_67 : decode cX10_readsCompared 67 = .ok (.ireturn, 1) := by decide +kernel
theorem dX10_readsCompared_68 : decode cX10_readsCompared 68 = .ok (.aload_n 0, 1) := by decide +kernel
theorem dX10_readsCompared_69 : decode cX10_readsCompared 69 = .ok (.aload_n 0, 1) := by decide +kernel
theorem dX10_readsCompared_70 : decode cX10_readsCompared 70 = .ok (.getfield 138, 3) := by decide +kernel
theorem dX10_readsCompared_73 : decode cX10_readsCompared 73 = .ok (.iconst 1, 1) := by decide +kernel
theorem dX10_readsCompared_74 : decode cX10_readsCompared 74 = .ok (.iadd, 1) := by decide +kernel
theorem dX10_readsCompared_75 : decode cX10_readsCompared 75 = .ok (.putfield 138, 3) := by decide +kernel
theorem dX10_readsCompared_78 : decode cX10_readsCompared 78 = .ok (.aload_n 0, 1) := by decide +kernel
theorem dX10_readsCompared_79 : decode cX10_readsCompared 79 = .ok (.invokevirtual 200, 3) := by decide +kernel
theorem dX10_readsCompared_82 : decode cX10_readsCompared 82 = .ok (.ifCond .ne 5, 3) := by decide +kernel
theorem dX10_readsCompared_85 : decode cX10_readsCompared 85 = .ok (.iconst 0, 1) := by decide +kernel
theorem dX10_readsCompared_86 : decode cX10_readsCompared 86 = .ok (.ireturn, 1) := by decide +kernel
theorem dX10_readsCompared_87 : decode cX10_readsCompared 87 = .ok (.aload_n 0, 1) := by decide +kernel
theorem dX10_readsCompared_88 : decode cX10_readsCompared 88 = .ok (.iload_n 1, 1) := by decide +kernel
theorem dX10_readsCompared_89 : decode cX10_readsCompared 89 = .ok (.iconst 0, 1) := by decide +kernel
theorem dX10_readsCompared_90 : decode cX10_readsCompared 90 = .ok (.invokevirtual 173, 3) := by decide +kernel
theorem dX10_readsCompared_93 : decode cX10_readsCompared 93 = .ok (.aload_n 0, 1) := by decide +kernel
theorem dX10_readsCompared_94 : decode cX10_readsCompared 94 = .ok (.invokevirtual 203, 3) := by decide +kernel
theorem dX10_readsCompared_97 : decode cX10_readsCompared 97 = .ok (.iconst 1, 1) := by decide +kernel
theorem dX10_readsCompared_98 : decode cX10_readsCompared 98 = .ok (.ireturn, 1) := by decide +kernel
set_option maxRecDepth 20000 in
theorem ggX10_readsCondition_X10_here : GoodIn wsX10_readsCondition wsX10_here := goodIn_r _ [8, 1, 9, 10, 79, 80, 81, 82, 83, 84, 85, 86, 87, 88, 89, 90, 91, 92, 93, 94, 95, 96, 97, 98, 99, 100, 101, 102, 103, 104, 105, 106, 107, 108, 109, 110, 111, 112, 113, 114, 115, 116, 117, 118, 119, 120, 121, 122, 123, 124, 125, 126, 127, 128, 129, 130] (by decide +kernel) (by decide +kernel)
set_option maxRecDepth 20000 in
theorem gX10_readsCondition_X10_here : GoodIn wsX10_readsCondition (wsV RX10 144 RX10 yX10_here wsX10_here) := goodIn_app (goodIn_of _ (by decide +kernel)) ggX10_readsCondition_X10_here
set_option maxRecDepth 20000 in
theorem ggX10_readsCondition_X10_wrongAt : GoodIn wsX10_readsCondition wsX10_wrongAt := goodIn_r _ [14, 15, 79, 80, 81, 82, 83, 84, 85, 86, 87, 88, 89, 90, 91, 92, 93, 94, 95, 96, 97, 98, 99, 100, 101, 102, 103, 104, 105, 106, 107, 108, 109, 110, 111, 112, 113, 114, 115, 116, 117, 118, 119, 120, 121, 122, 123, 124, 125, 126, 127, 128, 129, 130] (by decide +kernel) (by decide +kernel)
set_option maxRecDepth 20000 in
theorem gX10_readsCondition_X10_wrongAt : GoodIn wsX10_readsCondition (wsV RX10 151 RX10 yX10_wrongAt wsX10_wrongAt) := goodIn_app (goodIn_of _ (by decide +kernel)) ggX10_readsCondition_X10_wrongAt
set_option maxRecDepth 20000 in
theorem ggX10_readsCondition_X10_opens : GoodIn wsX10_readsCondition wsX10_opens := goodIn_r _ [19, 2, 1, 20, 3, 21, 11, 12, 13, 7, 14, 15, 79, 80, 81, 82, 83, 84, 85, 86, 87, 88, 89, 90, 91, 92, 93, 94, 95, 96, 97, 98, 99, 100, 101, 102, 103, 104, 105, 106, 107, 108, 109, 110, 111, 112, 113, 114, 115, 116, 117, 118, 119, 120, 121, 122, 123, 124, 125, 126, 127, 128, 129, 130] (by decide +kernel) (by decide +kernel)
set_option maxRecDepth 20000 in
theorem gX10_readsCondition_X10_opens : GoodIn wsX10_readsCondition (wsV RX10 177 RX10 yX10_opens wsX10_opens) := goodIn_app (goodIn_of _ (by decide +kernel)) ggX10_readsCondition_X10_opens
set_option maxRecDepth 20000 in
theorem ggX10_readsCondition_X10_readsCompared : GoodIn wsX10_readsCondition wsX10_readsCompared := goodIn_r _ [25, 1, 26, 27, 28, 7, 29, 3, 20, 21, 2, 30, 31, 32, 33, 34, 4, 5, 6, 8, 9, 10, 16, 17, 18, 19, 11, 12, 13, 14, 15, 35, 36, 37, 38, 39, 40, 41, 42, 43, 44, 45, 46, 47, 48, 49, 50, 51, 52, 53, 54, 55, 56, 57, 58, 59, 60, 61, 62, 63, 64, 65, 66, 67, 68, 69, 70, 79, 80, 81, 82, 83, 84, 85, 86, 87, 88, 89, 90, 91, 92, 93, 94, 95, 96, 97, 98, 99, 100, 101, 102, 103, 104, 105, 106, 107, 108, 109, 110, 111, 112, 113, 114, 115, 116, 117, 118, 119, 120, 121, 122, 123, 124, 125, 126, 127, 128, 129, 130] (by decide +kernel) (by decide +kernel)
set_option maxRecDepth 20000 in
theorem gX10_readsCondition_X10_readsCompared : GoodIn wsX10_readsCondition (wsV RX10 206 RX10 yX10_readsCompared wsX10_readsCompared) := goodIn_app (goodIn_of _ (by decide +kernel)) ggX10_readsCondition_X10_readsCompared
set_option maxRecDepth 20000 in
theorem ggX10_readsCondition_X10_lands : GoodIn wsX10_readsCondition wsX10_lands := goodIn_r _ [74, 20, 3, 21, 47, 48, 59, 60, 61, 7, 62, 79, 80, 81, 82, 83, 84, 85, 86, 87, 88, 89, 90, 91, 92, 93, 94, 95, 96, 97, 98, 99, 100, 101, 102, 103, 104, 105, 106, 107, 108, 109, 110, 111, 112, 113, 114, 115, 116, 117, 118, 119, 120, 121, 122, 123, 124, 125, 126, 127, 128, 129, 130] (by decide +kernel) (by decide +kernel)
set_option maxRecDepth 20000 in
theorem gX10_readsCondition_X10_lands : GoodIn wsX10_readsCondition (wsV RX10 209 RX10 yX10_lands wsX10_lands) := goodIn_app (goodIn_of _ (by decide +kernel)) ggX10_readsCondition_X10_lands
set_option maxRecDepth 20000 in
theorem ggX10_readsCondition_X10_endsPiece : GoodIn wsX10_readsCondition wsX10_endsPiece := goodIn_r _ [70, 3, 2, 59, 60, 61, 7, 62, 20, 21, 43, 44, 45, 46, 47, 48, 79, 80, 81, 82, 83, 84, 85, 86, 87, 88, 89, 90, 91, 92, 93, 94, 95, 96, 97, 98, 99, 100, 101, 102, 103, 104, 105, 106, 107, 108, 109, 110, 111, 112, 113, 114, 115, 116, 117, 118, 119, 120, 121, 122, 123, 124, 125, 126, 127, 128, 129, 130] (by decide +kernel) (by decide +kernel)
set_option maxRecDepth 20000 in
theorem gX10_readsCondition_X10_endsPiece : GoodIn wsX10_readsCondition (wsV RX10 203 RX10 yX10_endsPiece wsX10_endsPiece) := goodIn_app (goodIn_of _ (by decide +kernel)) ggX10_readsCondition_X10_endsPiece
set_option maxRecDepth 20000 in
theorem ggX10_readsCondition_X10_jumps : GoodIn wsX10_readsCondition wsX10_jumps := goodIn_r _ [78, 20, 3, 21, 48, 1, 43, 44, 45, 7, 46, 47, 79, 80, 81, 82, 83, 84, 85, 86, 87, 88, 89, 90, 91, 92, 93, 94, 95, 96, 97, 98, 99, 100, 101, 102, 103, 104, 105, 106, 107, 108, 109, 110, 111, 112, 113, 114, 115, 116, 117, 118, 119, 120, 121, 122, 123, 124, 125, 126, 127, 128, 129, 130] (by decide +kernel) (by decide +kernel)
set_option maxRecDepth 20000 in
theorem gX10_readsCondition_X10_jumps : GoodIn wsX10_readsCondition (wsV RX10 212 RX10 yX10_jumps wsX10_jumps) := goodIn_app (goodIn_of _ (by decide +kernel)) ggX10_readsCondition_X10_jumps
theorem dX10_readsCondition_0 : decode cX10_readsCondition 0 = .ok (.aload_n 0, 1) := by decide +kernel
theorem dX10_readsCondition_1 : decode cX10_readsCondition 1 = .ok (.invokevirtual 144, 3) := by decide +kernel
theorem dX10_readsCondition_4 : decode cX10_readsCondition 4 = .ok (.bipush 40, 2) := by decide +kernel
theorem dX10_readsCondition_6 : decode cX10_readsCondition 6 = .ok (.if_icmp .eq 13, 3) := by decide +kernel
theorem dX10_readsCondition_9 : decode cX10_readsCondition 9 = .ok (.aload_n 0, 1) := by decide +kernel
theorem dX10_readsCondition_10 : decode cX10_readsCondition 10 = .ok (.iconst 1, 1) := by decide +kernel
theorem dX10_readsCondition_11 : decode cX10_readsCondition 11 = .ok (.aload_n 0, 1) := by decide +kernel
theorem dX10_readsCondition_12 : decode cX10_readsCondition 12 = .ok (.getfield 138, 3) := by decide +kernel
theorem dX10_readsCondition_15 : decode cX10_readsCondition 15 = .ok (.invokevirtual 151, 3) := by decide +kernel
theorem dX10_readsCondition_18 : decode cX10_readsCondition 18 = .ok (.ireturn, 1) := by decide +kernel
theorem dX10_readsCondition_19 : decode cX10_readsCondition 19 = .ok (.aload_n 0, 1) := by decide +kernel
theorem dX10_readsCondition_20 : decode cX10_readsCondition 20 = .ok (.iconst 0, 1) := by decide +kernel
theorem dX10_readsCondition_21 : decode cX10_readsCondition 21 = .ok (.putfield 164, 3) := by decide +kernel
theorem dX10_readsCondition_24 : decode cX10_readsCondition 24 = .ok (.aload_n 0, 1) := by decide +kernel
theorem dX10_readsCondition_25 : decode cX10_readsCondition 25 = .ok (.iconst 0, 1) := by decide +kernel
theorem dX10_readsCondition_26 : decode cX10_readsCondition 26 = .ok (.putfield 167, 3) := by decide +kernel
theorem dX10_readsCondition_29 : decode cX10_readsCondition 29 = .ok (.aload_n 0, 1) := by decide +kernel
theorem dX10_readsCondition_30 : decode cX10_readsCondition 30 = .ok (.bipush 13, 2) := by decide +kernel
theorem dX10_readsCondition_32 : decode cX10_readsCondition 32 = .ok (.invokevirtual 177, 3) := by decide +kernel
theorem dX10_readsCondition_35 : decode cX10_readsCondition 35 = .ok (.ifCond .ne 5, 3) := by decide +kernel
theorem dX10_readsCondition_38 : decode cX10_readsCondition 38 = .ok (.iconst 0, 1) := by decide +kernel
theorem dX10_readsCondition_39 : decode cX10_readsCondition 39 = .ok (.ireturn, 1) := by decide +kernel
theorem dX10_readsCondition_40 : decode cX10_readsCondition 40 = .ok (.aload_n 0, 1) := by decide +kernel
theorem dX10_readsCondition_41 : decode cX10_readsCondition 41 = .ok (.invokevirtual 144, 3) := by decide +kernel
theorem dX10_readsCondition_44 : decode cX10_readsCondition 44 = .ok (.bipush 33, 2) := by decide +kernel
theorem dX10_readsCondition_46 : decode cX10_readsCondition 46 = .ok (.if_icmp .eq 12, 3) := by decide +kernel
theorem dX10_readsCondition_49 : decode cX10_readsCondition 49 = .ok (.aload_n 0, 1) := by decide +kernel
theorem dX10_readsCondition_50 : decode cX10_readsCondition 50 = .ok (.invokevirtual 144, 3) := by decide +kernel
theorem dX10_readsCondition_53 : decode cX10_readsCondition 53 = .ok (.bipush 40, 2) := by decide +kernel
theorem dX10_readsCondition_55 : decode cX10_readsCondition 55 = .ok (.if_icmp .ne 28, 3) := by decide +kernel
theorem dX10_readsCondition_58 : decode cX10_readsCondition 58 = .ok (.aload_n 0, 1) := by decide +kernel
theorem dX10_readsCondition_59 : decode cX10_readsCondition 59 = .ok (.aload_n 0, 1) := by decide +kernel
theorem dX10_readsCondition_60 : decode cX10_readsCondition 60 = .ok (.invokevirtual 144, 3) := by decide +kernel
theorem dX10_readsCondition_63 : decode cX10_readsCondition 63 = .ok (.bipush 33, 2) := by decide +kernel
theorem dX10_readsCondition_65 : decode cX10_readsCondition 65 = .ok (.if_icmp .ne 8, 3) := by decide +kernel
theorem dX10_readsCondition_68 : decode cX10_readsCondition 68 = .ok (.bipush 10, 2) := by decide +kernel
theorem dX10_readsCondition_70 : decode cX10_readsCondition 70 = .ok (.goto 5, 3) := by decide +kernel
theorem dX10_readsCondition_73 : decode cX10_readsCondition 73 = .ok (.bipush 13, 2) := by decide +kernel
theorem dX10_readsCondition_75 : decode cX10_readsCondition 75 = .ok (.invokevirtual 177, 3) := by decide +kernel
theorem dX10_readsCondition_78 : decode cX10_readsCondition 78 = .ok (.ifCond .ne (-38), 3) := by decide +kernel
theorem dX10_readsCondition_81 : decode cX10_readsCondition 81 = .ok (.iconst 0, 1) := by decide +kernel
theorem dX10_readsCondition_82 : decode cX10_readsCondition 82 = .ok (.ireturn, 1) := by decide +kernel
theorem dX10_readsCondition_83 : decode cX10_readsCondition 83 = .ok (.aload_n 0, 1) := by decide +kernel
theorem dX10_readsCondition_84 : decode cX10_readsCondition 84 = .ok (.invokevirtual 206, 3) := by decide +kernel
theorem dX10_readsCondition_87 : decode cX10_readsCondition 87 = .ok (.ifCond .ne 5, 3) := by decide +kernel
theorem dX10_readsCondition_90 : decode cX10_readsCondition 90 = .ok (.iconst 0, 1) := by decide +kernel
theorem dX10_readsCondition_91 : decode cX10_readsCondition 91 = .ok (.ireturn, 1) := by decide +kernel
theorem dX10_readsCondition_92 : decode cX10_readsCondition 92 = .ok (.aload_n 0, 1) := by decide +kernel
theorem dX10_readsCondition_93 : decode cX10_readsCondition 93 = .ok (.invokevirtual 144, 3) := by decide +kernel
theorem dX10_readsCondition_96 : decode cX10_readsCondition 96 = .ok (.bipush 41, 2) := by decide +kernel
theorem dX10_readsCondition_98 : decode cX10_readsCondition 98 = .ok (.if_icmp .ne 54, 3) := by decide +kernel
theorem dX10_readsCondition_101 : decode cX10_readsCondition 101 = .ok (.aload_n 0, 1) := by decide +kernel
theorem dX10_readsCondition_102 : decode cX10_readsCondition 102 = .ok (.iconst 1, 1) := by decide +kernel
theorem dX10_readsCondition_103 : decode cX10_readsCondition 103 = .ok (.invokevirtual 209, 3) := by decide +kernel
theorem dX10_readsCondition_106 : decode cX10_readsCondition 106 = .ok (.aload_n 0, 1) := by decide +kernel
theorem dX10_readsCondition_107 : decode cX10_readsCondition 107 = .ok (.aload_n 0, 1) := by decide +kernel
theorem dX10_readsCondition_108 : decode cX10_readsCondition 108 = .ok (.getfield 167, 3) := by decide +kernel
theorem dX10_readsCondition_111 : decode cX10_readsCondition 111 = .ok (.iconst 1, 1) := by decide +kernel
theorem dX10_readsCondition_112 : decode cX10_readsCondition 112 = .ok (.isub, 1) := by decide +kernel
theorem dX10_readsCondition_113 : decode cX10_readsCondition 113 = .ok (.putfield 167, 3) := by decide +kernel
theorem dX10_readsCondition_116 : decode cX10_readsCondition 116 = .ok (.aload_n 0, 1) := by decide +kernel
theorem dX10_readsCondition_117 : decode cX10_readsCondition 117 = .ok (.aload_n 0, 1) := by decide +kernel
theorem dX10_readsCondition_118 : decode cX10_readsCondition 118 = .ok (.getfield 164, 3) := by decide +kernel
theorem dX10_readsCondition_121 : decode cX10_readsCondition 121 = .ok (.iconst 1, 1) := by decide +kernel
theorem dX10_readsCondition_122 : decode cX10_readsCondition 122 = .ok (.isub, 1) := by decide +kernel
theorem dX10_readsCondition_123 : decode cX10_readsCondition 123 = .ok (.putfield 164, 3) := by decide +kernel
theorem dX10_readsCondition_126 : decode cX10_readsCondition 126 = .ok (.aload_n 0, 1) := by decide +kernel
theorem dX10_readsCondition_127 : decode cX10_readsCondition 127 = .ok (.aload_n 0, 1) := by decide +kernel
theorem dX10_readsCondition_128 : decode cX10_readsCondition 128 = .ok (.getfield 138, 3) := by decide +kernel
theorem dX10_readsCondition_131 : decode cX10_readsCondition 131 = .ok (.iconst 1, 1) := by decide +kernel
theorem dX10_readsCondition_132 : decode cX10_readsCondition 132 = .ok (.iadd, 1) := by decide +kernel
theorem dX10_readsCondition_133 : decode cX10_readsCondition 133 = .ok (.putfield 138, 3) := by decide +kernel
theorem dX10_readsCondition_136 : decode cX10_readsCondition 136 = .ok (.aload_n 0, 1) := by decide +kernel
theorem dX10_readsCondition_137 : decode cX10_readsCondition 137 = .ok (.getfield 167, 3) := by decide +kernel
theorem dX10_readsCondition_140 : decode cX10_readsCondition 140 = .ok (.ifCond .ne 5, 3) := by decide +kernel
theorem dX10_readsCondition_143 : decode cX10_readsCondition 143 = .ok (.iconst 1, 1) := by decide +kernel
theorem dX10_readsCondition_144 : decode cX10_readsCondition 144 = .ok (.ireturn, 1) := by decide +kernel
theorem dX10_readsCondition_145 : decode cX10_readsCondition 145 = .ok (.aload_n 0, 1) := by decide +kernel
theorem dX10_readsCondition_146 : decode cX10_readsCondition 146 = .ok (.invokevirtual 203, 3) := by decide +kernel
theorem dX10_readsCondition_149 : decode cX10_readsCondition 149 = .ok (.goto (-57), 3) := by decide +kernel
theorem dX10_readsCondition_152 : decode cX10_readsCondition 152 = .ok (.aload_n 0, 1) := by decide +kernel
theorem dX10_readsCondition_153 : decode cX10_readsCondition 153 = .ok (.invokevirtual 144, 3) := by decide +kernel
theorem dX10_readsCondition_156 : decode cX10_readsCondition 156 = .ok (.bipush 38, 2) := by decide +kernel
theorem dX10_readsCondition_158 : decode cX10_readsCondition 158 = .ok (.if_icmp .eq 22, 3) := by decide +kernel
theorem dX10_readsCondition_161 : decode cX10_readsCondition 161 = .ok (.aload_n 0, 1) := by decide +kernel
theorem dX10_readsCondition_162 : decode cX10_readsCondition 162 = .ok (.invokevirtual 144, 3) := by decide +kernel
theorem dX10_readsCondition_165 : decode cX10_readsCondition 165 = .ok (.bipush 124, 2) := by decide +kernel
theorem dX10_readsCondition_167 : decode cX10_readsCondition 167 = .ok (.if_icmp .eq 13, 3) := by decide +kernel
theorem dX10_readsCondition_170 : decode cX10_readsCondition 170 = .ok (.aload_n 0, 1) := by decide +kernel
theorem dX10_readsCondition_171 : decode cX10_readsCondition 171 = .ok (.iconst 1, 1) := by decide +kernel
theorem dX10_readsCondition_172 : decode cX10_readsCondition 172 = .ok (.aload_n 0, 1) := by decide +kernel
theorem dX10_readsCondition_173 : decode cX10_readsCondition 173 = .ok (.getfield 138, 3) := by decide +kernel
theorem dX10_readsCondition_176 : decode cX10_readsCondition 176 = .ok (.invokevirtual 151, 3) := by decide +kernel
theorem dX10_readsCondition_179 : decode cX10_readsCondition 179 = .ok (.ireturn, 1) := by decide +kernel
theorem dX10_readsCondition_180 : decode cX10_readsCondition 180 = .ok (.aload_n 0, 1) := by decide +kernel
theorem dX10_readsCondition_181 : decode cX10_readsCondition 181 = .ok (.aload_n 0, 1) := by decide +kernel
theorem dX10_readsCondition_182 : decode cX10_readsCondition 182 = .ok (.invokevirtual 144, 3) := by decide +kernel
theorem dX10_readsCondition_185 : decode cX10_readsCondition 185 = .ok (.bipush 124, 2) := by decide +kernel
theorem dX10_readsCondition_187 : decode cX10_readsCondition 187 = .ok (.if_icmp .ne 7, 3) := by decide +kernel
theorem dX10_readsCondition_190 : decode cX10_readsCondition 190 = .ok (.iconst 1, 1) := by decide +kernel
theorem dX10_readsCondition_191 : decode cX10_readsCondition 191 = .ok (.goto 4, 3) := by decide +kernel
theorem dX10_readsCondition_194 : decode cX10_readsCondition 194 = .ok (.iconst 0, 1) := by decide +kernel
theorem dX10_readsCondition_195 : decode cX10_readsCondition 195 = .ok (.invokevirtual 209, 3) := by decide +kernel
theorem dX10_readsCondition_198 : decode cX10_readsCondition 198 = .ok (.aload_n 0, 1) := by decide +kernel
theorem dX10_readsCondition_199 : decode cX10_readsCondition 199 = .ok (.aload_n 0, 1) := by decide +kernel
theorem dX10_readsCondition_200 : decode cX10_readsCondition 200 = .ok (.invokevirtual 144, 3) := by decide +kernel
theorem dX10_readsCondition_203 : decode cX10_readsCondition 203 = .ok (.bipush 38, 2) := by decide +kernel
theorem dX10_readsCondition_205 : decode cX10_readsCondition 205 = .ok (.if_icmp .ne 8, 3) := by decide +kernel
theorem dX10_readsCondition_208 : decode cX10_readsCondition 208 = .ok (.bipush 11, 2) := by decide +kernel
theorem dX10_readsCondition_210 : decode cX10_readsCondition 210 = .ok (.goto 5, 3) := by decide +kernel
theorem dX10_readsCondition_213 : decode cX10_readsCondition 213 = .ok (.bipush 12, 2) := by decide +kernel
theorem dX10_readsCondition_215 : decode cX10_readsCondition 215 = .ok (.invokevirtual 212, 3) := by decide +kernel
theorem dX10_readsCondition_218 : decode cX10_readsCondition 218 = .ok (.goto (-178), 3) := by decide +kernel
set_option maxRecDepth 20000 in
theorem ggX10_readsRule_X10_here : GoodIn wsX10_readsRule wsX10_here := goodIn_r _ [14, 1, 15, 16, 88, 89, 90, 91, 92, 93, 94, 95, 96, 97, 98, 99, 100, 101, 102, 103, 104, 105, 106, 107, 108, 109, 110, 111, 112, 113, 114, 115, 116, 117, 118, 119, 120, 121, 122, 123, 124, 125, 126, 127, 128, 129, 130, 131, 132, 133, 134, 135, 136, 137, 138, 139] (by decide +kernel) (by decide +kernel)
set_option maxRecDepth 20000 in
theorem gX10_readsRule_X10_here : GoodIn wsX10_readsRule (wsV RX10 144 RX10 yX10_here wsX10_here) := goodIn_app (goodIn_of _ (by decide +kernel)) ggX10_readsRule_X10_here
set_option maxRecDepth 20000 in
theorem ggX10_readsRule_X10_wrongAt : GoodIn wsX10_readsRule wsX10_wrongAt := goodIn_r _ [20, 21, 88, 89, 90, 91, 92, 93, 94, 95, 96, 97, 98, 99, 100, 101, 102, 103, 104, 105, 106, 107, 108, 109, 110, 111, 112, 113, 114, 115, 116, 117, 118, 119, 120, 121, 122, 123, 124, 125, 126, 127, 128, 129, 130, 131, 132, 133, 134, 135, 136, 137, 138, 139] (by decide +kernel) (by decide +kernel)
set_option maxRecDepth 20000 in
theorem gX10_readsRule_X10_wrongAt : GoodIn wsX10_readsRule (wsV RX10 151 RX10 yX10_wrongAt wsX10_wrongAt) := goodIn_app (goodIn_of _ (by decide +kernel)) ggX10_readsRule_X10_wrongAt
set_option maxRecDepth 20000 in
theorem ggX10_readsRule_X10_readsSum : GoodIn wsX10_readsRule wsX10_readsSum := goodIn_r _ [25, 7, 26, 27, 1, 6, 28, 29, 30, 13, 31, 32, 10, 11, 12, 14, 15, 16, 33, 34, 35, 36, 17, 18, 19, 20, 21, 37, 38, 39, 40, 41, 42, 43, 44, 45, 46, 47, 48, 49, 5, 50, 51, 52, 53, 54, 55, 56, 57, 58, 59, 60, 61, 62, 63, 64, 65, 66, 67, 88, 89, 90, 91, 92, 93, 94, 95, 96, 97, 98, 99, 100, 101, 102, 103, 104, 105, 106, 107, 108, 109, 110, 111, 112, 113, 114, 115, 116, 117, 118, 119, 120, 121, 122, 123, 124, 125, 126, 127, 128, 129, 130, 131, 132, 133, 134, 135, 136, 137, 138, 139] (by decide +kernel) (by decide +kernel)
set_option maxRecDepth 20000 in
theorem gX10_readsRule_X10_readsSum : GoodIn wsX10_readsRule (wsV RX10 200 RX10 yX10_readsSum wsX10_readsSum) := goodIn_app (goodIn_of _ (by decide +kernel)) ggX10_readsRule_X10_readsSum
set_option maxRecDepth 20000 in
theorem ggX10_readsRule_X10_readsCondition : GoodIn wsX10_readsRule wsX10_readsCondition := goodIn_r _ [71, 1, 6, 7, 10, 11, 12, 13, 14, 15, 16, 17, 18, 19, 20, 21, 33, 34, 35, 36, 26, 27, 72, 73, 74, 75, 22, 23, 24, 25, 28, 29, 30, 31, 32, 37, 38, 39, 40, 41, 42, 43, 44, 45, 46, 47, 48, 49, 5, 50, 51, 52, 53, 54, 55, 56, 57, 58, 59, 60, 61, 62, 63, 64, 65, 66, 67, 76, 77, 78, 79, 80, 81, 82, 83, 84, 85, 86, 87, 88, 89, 90, 91, 92, 93, 94, 95, 96, 97, 98, 99, 100, 101, 102, 103, 104, 105, 106, 107, 108, 109, 110, 111, 112, 113, 114, 115, 116, 117, 118, 119, 120, 121, 122, 123, 124, 125, 126, 127, 128, 129, 130, 131, 132, 133, 134, 135, 136, 137, 138, 139] (by decide +kernel) (by decide +kernel)
set_option maxRecDepth 20000 in
theorem gX10_readsRule_X10_readsCondition : GoodIn wsX10_readsRule (wsV RX10 218 RX10 yX10_readsCondition wsX10_readsCondition) := goodIn_app (goodIn_of _ (by decide +kernel)) ggX10_readsRule_X10_readsCondition
theorem dX10_readsRule_0 : decode cX10_readsRule 0 = .ok (.aload_n 0, 1) := by decide +kernel
theorem dX10_readsRule_1 : decode cX10_readsRule 1 = .ok (.invokevirtual 144, 3) := by decide +kernel
theorem dX10_readsRule_4 : decode cX10_readsRule 4 = .ok (.istore_n 1, 1) := by decide +kernel
theorem dX10_readsRule_5 : decode cX10_readsRule 5 = .ok (.iload_n 1, 1) := by decide +kernel
theorem dX10_readsRule_6 : decode cX10_readsRule 6 = .ok (.bipush 119, 2) := by decide +kernel
theorem dX10_readsRule_8 : decode cX10_readsRule 8 = .ok (.if_icmp .eq 25, 3) := by decide +kernel
theorem dX10_readsRule_11 : decode cX10_readsRule 11 = .ok (.iload_n 1, 1) := by decide +kernel
theorem dX10_readsRule_12 : decode cX10_readsRule 12 = .ok (.bipush 114, 2) := by decide +kernel
theorem dX10_readsRule_14 : decode cX10_readsRule 14 = .ok (.if_icmp .eq 19, 3) := by decide +kernel
theorem dX10_readsRule_17 : decode cX10_readsRule 17 = .ok (.iload_n 1, 1) := by decide +kernel
theorem dX10_readsRule_18 : decode cX10_readsRule 18 = .ok (.bipush 115, 2) := by decide +kernel
theorem dX10_readsRule_20 : decode cX10_readsRule 20 = .ok (.if_icmp .eq 13, 3) := by decide +kernel
theorem dX10_readsRule_23 : decode cX10_readsRule 23 = .ok (.aload_n 0, 1) := by decide +kernel
theorem dX10_readsRule_24 : decode cX10_readsRule 24 = .ok (.iconst 1, 1) := by decide +kernel
theorem dX10_readsRule_25 : decode cX10_readsRule 25 = .ok (.aload_n 0, 1) := by decide +kernel
theorem dX10_readsRule_26 : decode cX10_readsRule 26 = .ok (.getfield 138, 3) := by decide +kernel
theorem dX10_readsRule_29 : decode cX10_readsRule 29 = .ok (.invokevirtual 151, 3) := by decide +kernel
theorem dX10_readsRule_32 : decode cX10_readsRule 32 = .ok (.ireturn, 1) := by decide +kernel
theorem dX10_readsRule_33 : decode cX10_readsRule 33 = .ok (.aload_n 0, 1) := by decide +kernel
theorem dX10_readsRule_34 : decode cX10_readsRule 34 = .ok (.getfield 215, 3) := by decide +kernel
theorem dX10_readsRule_37 : decode cX10_readsRule 37 = .ok (.bipush 16, 2) := by decide +kernel
theorem dX10_readsRule_39 : decode cX10_readsRule 39 = .ok (.if_icmp .ne 13, 3) := by decide +kernel
theorem dX10_readsRule_42 : decode cX10_readsRule 42 = .ok (.aload_n 0, 1) := by decide +kernel
theorem dX10_readsRule_43 : decode cX10_readsRule 43 = .ok (.iconst 4, 1) := by decide +kernel
theorem dX10_readsRule_44 : decode cX10_readsRule 44 = .ok (.aload_n 0, 1) := by decide +kernel
theorem dX10_readsRule_45 : decode cX10_readsRule 45 = .ok (.getfield 138, 3) := by decide +kernel
theorem dX10_readsRule_48 : decode cX10_readsRule 48 = .ok (.invokevirtual 151, 3) := by decide +kernel
theorem dX10_readsRule_51 : decode cX10_readsRule 51 = .ok (.ireturn, 1) := by decide +kernel
theorem dX10_readsRule_52 : decode cX10_readsRule 52 = .ok (.aload_n 0, 1) := by decide +kernel
theorem dX10_readsRule_53 : decode cX10_readsRule 53 = .ok (.getfield 38, 3) := by decide +kernel
theorem dX10_readsRule_56 : decode cX10_readsRule 56 = .ok (.aload_n 0, 1) := by decide +kernel
theorem dX10_readsRule_57 : decode cX10_readsRule 57 = .ok (.getfield 215, 3) := by decide +kernel
theorem dX10_readsRule_60 : decode cX10_readsRule 60 = .ok (.iload_n 1, 1) := by decide +kernel
theorem dX10_readsRule_61 : decode cX10_readsRule 61 = .ok (.iastore, 1) := by decide +kernel
theorem dX10_readsRule_62 : decode cX10_readsRule 62 = .ok (.aload_n 0, 1) := by decide +kernel
theorem dX10_readsRule_63 : decode cX10_readsRule 63 = .ok (.aload_n 0, 1) := by decide +kernel
theorem dX10_readsRule_64 : decode cX10_readsRule 64 = .ok (.getfield 138, 3) := by decide +kernel
theorem dX10_readsRule_67 : decode cX10_readsRule 67 = .ok (.iconst 1, 1) := by decide +kernel
theorem dX10_readsRule_68 : decode cX10_readsRule 68 = .ok (.iadd, 1) := by decide +kernel
theorem dX10_readsRule_69 : decode cX10_readsRule 69 = .ok (.putfield 138, 3) := by decide +kernel
theorem dX10_readsRule_72 : decode cX10_readsRule 72 = .ok (.aload_n 0, 1) := by decide +kernel
theorem dX10_readsRule_73 : decode cX10_readsRule 73 = .ok (.getfield 41, 3) := by decide +kernel
theorem dX10_readsRule_76 : decode cX10_readsRule 76 = .ok (.aload_n 0, 1) := by decide +kernel
theorem dX10_readsRule_77 : decode cX10_readsRule 77 = .ok (.getfield 215, 3) := by decide +kernel
theorem dX10_readsRule_80 : decode cX10_readsRule 80 = .ok (.aload_n 0, 1) := by decide +kernel
theorem dX10_readsRule_81 : decode cX10_readsRule 81 = .ok (.getfield 161, 3) := by decide +kernel
theorem dX10_readsRule_84 : decode cX10_readsRule 84 = .ok (.iastore, 1) := by decide +kernel
theorem dX10_readsRule_85 : decode cX10_readsRule 85 = .ok (.aload_n 0, 1) := by decide +kernel
theorem dX10_readsRule_86 : decode cX10_readsRule 86 = .ok (.iconst 0, 1) := by decide +kernel
theorem dX10_readsRule_87 : decode cX10_readsRule 87 = .ok (.putfield 164, 3) := by decide +kernel
theorem dX10_readsRule_90 : decode cX10_readsRule 90 = .ok (.aload_n 0, 1) := by decide +kernel
theorem dX10_readsRule_91 : decode cX10_readsRule 91 = .ok (.iconst 0, 1) := by decide +kernel
theorem dX10_readsRule_92 : decode cX10_readsRule 92 = .ok (.putfield 167, 3) := by decide +kernel
theorem dX10_readsRule_95 : decode cX10_readsRule 95 = .ok (.iload_n 1, 1) := by decide +kernel
theorem dX10_readsRule_96 : decode cX10_readsRule 96 = .ok (.bipush 115, 2) := by decide +kernel
theorem dX10_readsRule_98 : decode cX10_readsRule 98 = .ok (.if_icmp .eq 12, 3) := by decide +kernel
theorem dX10_readsRule_101 : decode cX10_readsRule 101 = .ok (.aload_n 0, 1) := by decide +kernel
theorem dX10_readsRule_102 : decode cX10_readsRule 102 = .ok (.invokevirtual 200, 3) := by decide +kernel
theorem dX10_readsRule_105 : decode cX10_readsRule 105 = .ok (.ifCond .ne 5, 3) := by decide +kernel
theorem dX10_readsRule_108 : decode cX10_readsRule 108 = .ok (.iconst 0, 1) := by decide +kernel
theorem dX10_readsRule_109 : decode cX10_readsRule 109 = .ok (.ireturn, 1) := by decide +kernel
theorem dX10_readsRule_110 : decode cX10_readsRule 110 = .ok (.aload_n 0, 1) := by decide +kernel
theorem dX10_readsRule_111 : decode cX10_readsRule 111 = .ok (.getfield 44, 3) := by decide +kernel
theorem dX10_readsRule_114 : decode cX10_readsRule 114 = .ok (.aload_n 0, 1) := by decide +kernel
theorem dX10_readsRule_115 : decode cX10_readsRule 115 = .ok (.getfield 215, 3) := by decide +kernel
theorem dX10_readsRule_118 : decode cX10_readsRule 118 = .ok (.aload_n 0, 1) := by decide +kernel
theorem dX10_readsRule_119 : decode cX10_readsRule 119 = .ok (.getfield 161, 3) := by decide +kernel
theorem dX10_readsRule_122 : decode cX10_readsRule 122 = .ok (.iastore, 1) := by decide +kernel
theorem dX10_readsRule_123 : decode cX10_readsRule 123 = .ok (.aload_n 0, 1) := by decide +kernel
theorem dX10_readsRule_124 : decode cX10_readsRule 124 = .ok (.invokevirtual 218, 3) := by decide +kernel
theorem dX10_readsRule_127 : decode cX10_readsRule 127 = .ok (.ifCond .ne 5, 3) := by decide +kernel
theorem dX10_readsRule_130 : decode cX10_readsRule 130 = .ok (.iconst 0, 1) := by decide +kernel
theorem dX10_readsRule_131 : decode cX10_readsRule 131 = .ok (.ireturn, 1) := by decide +kernel
theorem dX10_readsRule_132 : decode cX10_readsRule 132 = .ok (.aload_n 0, 1) := by decide +kernel
theorem dX10_readsRule_133 : decode cX10_readsRule 133 = .ok (.getfield 47, 3) := by decide +kernel
theorem dX10_readsRule_136 : decode cX10_readsRule 136 = .ok (.aload_n 0, 1) := by decide +kernel
theorem dX10_readsRule_137 : decode cX10_readsRule 137 = .ok (.getfield 215, 3) := by decide +kernel
theorem dX10_readsRule_140 : decode cX10_readsRule 140 = .ok (.aload_n 0, 1) := by decide +kernel
theorem dX10_readsRule_141 : decode cX10_readsRule 141 = .ok (.getfield 161, 3) := by decide +kernel
theorem dX10_readsRule_144 : decode cX10_readsRule 144 = .ok (.iastore, 1) := by decide +kernel
theorem dX10_readsRule_145 : decode cX10_readsRule 145 = .ok (.aload_n 0, 1) := by decide +kernel
theorem dX10_readsRule_146 : decode cX10_readsRule 146 = .ok (.aload_n 0, 1) := by decide +kernel
theorem dX10_readsRule_147 : decode cX10_readsRule 147 = .ok (.getfield 215, 3) := by decide +kernel
theorem dX10_readsRule_150 : decode cX10_readsRule 150 = .ok (.iconst 1, 1) := by decide +kernel
theorem dX10_readsRule_151 : decode cX10_readsRule 151 = .ok (.iadd, 1) := by decide +kernel
theorem dX10_readsRule_152 : decode cX10_readsRule 152 = .ok (.putfield 215, 3) := by decide +kernel
theorem dX10_readsRule_155 : decode cX10_readsRule 155 = .ok (.iconst 1, 1) := by decide +kernel
theorem dX10_readsRule_156 : decode cX10_readsRule 156 = .ok (.ireturn, 1) := by decide +kernel
theorem dX10_beginsText_0 : decode cX10_beginsText 0 = .ok (.aload_n 0, 1) := by decide +kernel
theorem dX10_beginsText_1 : decode cX10_beginsText 1 = .ok (.iconst 0, 1) := by decide +kernel
theorem dX10_beginsText_2 : decode cX10_beginsText 2 = .ok (.putfield 138, 3) := by decide +kernel
theorem dX10_beginsText_5 : decode cX10_beginsText 5 = .ok (.aload_n 0, 1) := by decide +kernel
theorem dX10_beginsText_6 : decode cX10_beginsText 6 = .ok (.iload_n 1, 1) := by decide +kernel
theorem dX10_beginsText_7 : decode cX10_beginsText 7 = .ok (.putfield 141, 3) := by decide +kernel
theorem dX10_beginsText_10 : decode cX10_beginsText 10 = .ok (.aload_n 0, 1) := by decide +kernel
theorem dX10_beginsText_11 : decode cX10_beginsText 11 = .ok (.iconst 0, 1) := by decide +kernel
theorem dX10_beginsText_12 : decode cX10_beginsText 12 = .ok (.putfield 161, 3) := by decide +kernel
theorem dX10_beginsText_15 : decode cX10_beginsText 15 = .ok (.aload_n 0, 1) := by decide +kernel
theorem dX10_beginsText_16 : decode cX10_beginsText 16 = .ok (.iconst 0, 1) := by decide +kernel
theorem dX10_beginsText_17 : decode cX10_beginsText 17 = .ok (.putfield 215, 3) := by decide +kernel
theorem dX10_beginsText_20 : decode cX10_beginsText 20 = .ok (.return_, 1) := by decide +kernel
set_option maxRecDepth 20000 in
theorem ggX10_law_X10_in : GoodIn wsX10_law wsX10_in := goodIn_r _ [21] (by decide +kernel) (by decide +kernel)
set_option maxRecDepth 20000 in
theorem gX10_law_X10_in : GoodIn wsX10_law (va_wsS RX10 112 yX10_in wsX10_in) := goodIn_app (goodIn_of _ (by decide +kernel)) ggX10_law_X10_in
set_option maxRecDepth 20000 in
theorem ggX10_law_X10_beginsText : GoodIn wsX10_law wsX10_beginsText := goodIn_r _ [25, 2, 3, 7, 5, 110, 111, 112, 113, 114, 115, 116, 117, 118, 119, 120, 121, 122, 123, 124, 125, 126, 127, 128, 129, 130, 131, 132, 133, 134, 135, 136, 137, 138, 139, 140, 141, 142, 143, 144, 145, 146, 147, 148, 149, 150, 151, 152, 153, 154, 155, 156, 157, 158, 159, 160, 161] (by decide +kernel) (by decide +kernel)
set_option maxRecDepth 20000 in
theorem gX10_law_X10_beginsText : GoodIn wsX10_law (wsV RX10 221 RX10 yX10_beginsText wsX10_beginsText) := goodIn_app (goodIn_of _ (by decide +kernel)) ggX10_law_X10_beginsText
set_option maxRecDepth 20000 in
theorem ggX10_law_X10_readsRule : GoodIn wsX10_law wsX10_readsRule := goodIn_r _ [29, 2, 5, 11, 13, 7, 30, 31, 15, 17, 32, 33, 34, 20, 35, 3, 36, 37, 38, 39, 40, 4, 41, 42, 43, 44, 45, 46, 47, 48, 49, 50, 51, 52, 53, 54, 55, 56, 57, 58, 59, 60, 61, 62, 63, 64, 65, 66, 67, 9, 68, 69, 70, 71, 72, 73, 74, 75, 76, 77, 78, 79, 80, 81, 82, 83, 84, 85, 86, 87, 88, 89, 90, 91, 92, 93, 94, 95, 96, 97, 98, 99, 100, 101, 102, 103, 104, 105, 110, 111, 112, 113, 114, 115, 116, 117, 118, 119, 120, 121, 122, 123, 124, 125, 126, 127, 128, 129, 130, 131, 132, 133, 134, 135, 136, 137, 138, 139, 140, 141, 142, 143, 144, 145, 146, 147, 148, 149, 150, 151, 152, 153, 154, 155, 156, 157, 158, 159, 160, 161] (by decide +kernel) (by decide +kernel)
set_option maxRecDepth 20000 in
theorem gX10_law_X10_readsRule : GoodIn wsX10_law (wsV RX10 224 RX10 yX10_readsRule wsX10_readsRule) := goodIn_app (goodIn_of _ (by decide +kernel)) ggX10_law_X10_readsRule
set_option maxRecDepth 20000 in
theorem ggX10_law_X10_takes : GoodIn wsX10_law wsX10_takes := goodIn_r _ [109, 2, 32, 33, 34, 20, 35, 3, 36, 37, 38, 39, 40, 4, 110, 111, 112, 113, 114, 115, 116, 117, 118, 119, 120, 121, 122, 123, 124, 125, 126, 127, 128, 129, 130, 131, 132, 133, 134, 135, 136, 137, 138, 139, 140, 141, 142, 143, 144, 145, 146, 147, 148, 149, 150, 151, 152, 153, 154, 155, 156, 157, 158, 159, 160, 161] (by decide +kernel) (by decide +kernel)
set_option maxRecDepth 20000 in
theorem gX10_law_X10_takes : GoodIn wsX10_law (wsV RX10 227 RX10 yX10_takes wsX10_takes) := goodIn_app (goodIn_of _ (by decide +kernel)) ggX10_law_X10_takes
theorem dX10_law_0 : decode cX10_law 0 = .ok (.iload_n 1, 1) := by decide +kernel
theorem dX10_law_1 : decode cX10_law 1 = .ok (.iconst 1, 1) := by decide +kernel
theorem dX10_law_2 : decode cX10_law 2 = .ok (.sipush 240, 3) := by decide +kernel
theorem dX10_law_5 : decode cX10_law 5 = .ok (.invokestatic 112, 3) := by decide +kernel
theorem dX10_law_8 : decode cX10_law 8 = .ok (.ifCond .eq 11, 3) := by decide +kernel
theorem dX10_law_11 : decode cX10_law 11 = .ok (.iload_n 1, 1) := by decide +kernel
theorem dX10_law_12 : decode cX10_law 12 = .ok (.aload_n 0, 1) := by decide +kernel
theorem dX10_law_13 : decode cX10_law 13 = .ok (.getfield 131, 3) := by decide +kernel
theorem dX10_law_16 : decode cX10_law 16 = .ok (.if_icmp .le 5, 3) := by decide +kernel
theorem dX10_law_19 : decode cX10_law 19 = .ok (.iconst (-1), 1) := by decide +kernel
theorem dX10_law_20 : decode cX10_law 20 = .ok (.ireturn, 1) := by decide +kernel
theorem dX10_law_21 : decode cX10_law 21 = .ok (.aload_n 0, 1) := by decide +kernel
theorem dX10_law_22 : decode cX10_law 22 = .ok (.iload_n 1, 1) := by decide +kernel
theorem dX10_law_23 : decode cX10_law 23 = .ok (.invokevirtual 221, 3) := by decide +kernel
theorem dX10_law_26 : decode cX10_law 26 = .ok (.aload_n 0, 1) := by decide +kernel
theorem dX10_law_27 : decode cX10_law 27 = .ok (.invokevirtual 224, 3) := by decide +kernel
theorem dX10_law_30 : decode cX10_law 30 = .ok (.istore_n 2, 1) := by decide +kernel
theorem dX10_law_31 : decode cX10_law 31 = .ok (.iload_n 2, 1) := by decide +kernel
theorem dX10_law_32 : decode cX10_law 32 = .ok (.ifCond .eq 39, 3) := by decide +kernel
theorem dX10_law_35 : decode cX10_law 35 = .ok (.aload_n 0, 1) := by decide +kernel
theorem dX10_law_36 : decode cX10_law 36 = .ok (.getfield 138, 3) := by decide +kernel
theorem dX10_law_39 : decode cX10_law 39 = .ok (.aload_n 0, 1) := by decide +kernel
theorem dX10_law_40 : decode cX10_law 40 = .ok (.getfield 141, 3) := by decide +kernel
theorem dX10_law_43 : decode cX10_law 43 = .ok (.if_icmp .ge 28, 3) := by decide +kernel
theorem dX10_law_46 : decode cX10_law 46 = .ok (.aload_n 0, 1) := by decide +kernel
theorem dX10_law_47 : decode cX10_law 47 = .ok (.bipush 59, 2) := by decide +kernel
theorem dX10_law_49 : decode cX10_law 49 = .ok (.invokevirtual 227, 3) := by decide +kernel
theorem dX10_law_52 : decode cX10_law 52 = .ok (.ifCond .eq 14, 3) := by decide +kernel
theorem dX10_law_55 : decode cX10_law 55 = .ok (.aload_n 0, 1) := by decide +kernel
theorem dX10_law_56 : decode cX10_law 56 = .ok (.invokevirtual 224, 3) := by decide +kernel
theorem dX10_law_59 : decode cX10_law 59 = .ok (.ifCond .eq 7, 3) := by decide +kernel
theorem dX10_law_62 : decode cX10_law 62 = .ok (.iconst 1, 1) := by decide +kernel
theorem dX10_law_63 : decode cX10_law 63 = .ok (.goto 4, 3) := by decide +kernel
theorem dX10_law_66 : decode cX10_law 66 = .ok (.iconst 0, 1) := by decide +kernel
theorem dX10_law_67 : decode cX10_law 67 = .ok (.istore_n 2, 1) := by decide +kernel
theorem dX10_law_68 : decode cX10_law 68 = .ok (.goto (-37), 3) := by decide +kernel
theorem dX10_law_71 : decode cX10_law 71 = .ok (.aload_n 0, 1) := by decide +kernel
theorem dX10_law_72 : decode cX10_law 72 = .ok (.iconst 0, 1) := by decide +kernel
theorem dX10_law_73 : decode cX10_law 73 = .ok (.putfield 131, 3) := by decide +kernel
theorem dX10_law_76 : decode cX10_law 76 = .ok (.iload_n 2, 1) := by decide +kernel
theorem dX10_law_77 : decode cX10_law 77 = .ok (.ifCond .ne 8, 3) := by decide +kernel
theorem dX10_law_80 : decode cX10_law 80 = .ok (.aload_n 0, 1) := by decide +kernel
theorem dX10_law_81 : decode cX10_law 81 = .ok (.getfield 148, 3) := by decide +kernel
theorem dX10_law_84 : decode cX10_law 84 = .ok (.ireturn, 1) := by decide +kernel
theorem dX10_law_85 : decode cX10_law 85 = .ok (.aload_n 0, 1) := by decide +kernel
theorem dX10_law_86 : decode cX10_law 86 = .ok (.aload_n 0, 1) := by decide +kernel
theorem dX10_law_87 : decode cX10_law 87 = .ok (.getfield 215, 3) := by decide +kernel
theorem dX10_law_90 : decode cX10_law 90 = .ok (.putfield 230, 3) := by decide +kernel
theorem dX10_law_93 : decode cX10_law 93 = .ok (.iconst 0, 1) := by decide +kernel
theorem dX10_law_94 : decode cX10_law 94 = .ok (.istore_n 3, 1) := by decide +kernel
theorem dX10_law_95 : decode cX10_law 95 = .ok (.iload_n 3, 1) := by decide +kernel
theorem dX10_law_96 : decode cX10_law 96 = .ok (.aload_n 0, 1) := by decide +kernel
theorem dX10_law_97 : decode cX10_law 97 = .ok (.getfield 161, 3) := by decide +kernel
theorem dX10_law_100 : decode cX10_law 100 = .ok (.if_icmp .ge 21, 3) := by decide +kernel
theorem dX10_law_103 : decode cX10_law 103 = .ok (.aload_n 0, 1) := by decide +kernel
theorem dX10_law_104 : decode cX10_law 104 = .ok (.getfield 50, 3) := by decide +kernel
theorem dX10_law_107 : decode cX10_law 107 = .ok (.iload_n 3, 1) := by decide +kernel
theorem dX10_law_108 : decode cX10_law 108 = .ok (.aload_n 0, 1) := by decide +kernel
theorem dX10_law_109 : decode cX10_law 109 = .ok (.getfield 32, 3) := by decide +kernel
theorem dX10_law_112 : decode cX10_law 112 = .ok (.iload_n 3, 1) := by decide +kernel
theorem dX10_law_113 : decode cX10_law 113 = .ok (.iaload, 1) := by decide +kernel
theorem dX10_law_114 : decode cX10_law 114 = .ok (.iastore, 1) := by decide +kernel
theorem dX10_law_115 : decode cX10_law 115 = .ok (.iinc 3 1, 3) := by decide +kernel
theorem dX10_law_118 : decode cX10_law 118 = .ok (.goto (-23), 3) := by decide +kernel
theorem dX10_law_121 : decode cX10_law 121 = .ok (.iconst 0, 1) := by decide +kernel
theorem dX10_law_122 : decode cX10_law 122 = .ok (.istore_n 3, 1) := by decide +kernel
theorem dX10_law_123 : decode cX10_law 123 = .ok (.iload_n 3, 1) := by decide +kernel
theorem dX10_law_124 : decode cX10_law 124 = .ok (.aload_n 0, 1) := by decide +kernel
theorem dX10_law_125 : decode cX10_law 125 = .ok (.getfield 215, 3) := by decide +kernel
theorem dX10_law_128 : decode cX10_law 128 = .ok (.if_icmp .ge 57, 3) := by decide +kernel
theorem dX10_law_131 : decode cX10_law 131 = .ok (.aload_n 0, 1) := by decide +kernel
theorem dX10_law_132 : decode cX10_law 132 = .ok (.getfield 53, 3) := by decide +kernel
theorem dX10_law_135 : decode cX10_law 135 = .ok (.iload_n 3, 1) := by decide +kernel
theorem dX10_law_136 : decode cX10_law 136 = .ok (.aload_n 0, 1) := by decide +kernel
theorem dX10_law_137 : decode cX10_law 137 = .ok (.getfield 38, 3) := by decide +kernel
theorem dX10_law_140 : decode cX10_law 140 = .ok (.iload_n 3, 1) := by decide +kernel
theorem dX10_law_141 : decode cX10_law 141 = .ok (.iaload, 1) := by decide +kernel
theorem dX10_law_142 : decode cX10_law 142 = .ok (.iastore, 1) := by decide +kernel
theorem dX10_law_143 : decode cX10_law 143 = .ok (.aload_n 0, 1) := by decide +kernel
theorem dX10_law_144 : decode cX10_law 144 = .ok (.getfield 56, 3) := by decide +kernel
theorem dX10_law_147 : decode cX10_law 147 = .ok (.iload_n 3, 1) := by decide +kernel
theorem dX10_law_148 : decode cX10_law 148 = .ok (.aload_n 0, 1) := by decide +kernel
theorem dX10_law_149 : decode cX10_law 149 = .ok (.getfield 41, 3) := by decide +kernel
theorem dX10_law_152 : decode cX10_law 152 = .ok (.iload_n 3, 1) := by decide +kernel
theorem dX10_law_153 : decode cX10_law 153 = .ok (.iaload, 1) := by decide +kernel
theorem dX10_law_154 : decode cX10_law 154 = .ok (.iastore, 1) := by decide +kernel
theorem dX10_law_155 : decode cX10_law 155 = .ok (.aload_n 0, 1) := by decide +kernel
theorem dX10_law_156 : decode cX10_law 156 = .ok (.getfield 59, 3) := by decide +kernel
theorem dX10_law_159 : decode cX10_law 159 = .ok (.iload_n 3, 1) := by decide +kernel
theorem dX10_law_160 : decode cX10_law 160 = .ok (.aload_n 0, 1) := by decide +kernel
theorem dX10_law_161 : decode cX10_law 161 = .ok (.getfield 44, 3) := by decide +kernel
theorem dX10_law_164 : decode cX10_law 164 = .ok (.iload_n 3, 1) := by decide +kernel
theorem dX10_law_165 : decode cX10_law 165 = .ok (.iaload, 1) := by decide +kernel
theorem dX10_law_166 : decode cX10_law 166 = .ok (.iastore, 1) := by decide +kernel
theorem dX10_law_167 : decode cX10_law 167 = .ok (.aload_n 0, 1) := by decide +kernel
theorem dX10_law_168 : decode cX10_law 168 = .ok (.getfield 62, 3) := by decide +kernel
theorem dX10_law_171 : decode cX10_law 171 = .ok (.iload_n 3, 1) := by decide +kernel
theorem dX10_law_172 : decode cX10_law 172 = .ok (.aload_n 0, 1) := by decide +kernel
theorem dX10_law_173 : decode cX10_law 173 = .ok (.getfield 47, 3) := by decide +kernel
theorem dX10_law_176 : decode cX10_law 176 = .ok (.iload_n 3, 1) := by decide +kernel
theorem dX10_law_177 : decode cX10_law 177 = .ok (.iaload, 1) := by decide +kernel
theorem dX10_law_178 : decode cX10_law 178 = .ok (.iastore, 1) := by decide +kernel
theorem dX10_law_179 : decode cX10_law 179 = .ok (.iinc 3 1, 3) := by decide +kernel
theorem dX10_law_182 : decode cX10_law 182 = .ok (.goto (-59), 3) := by decide +kernel
theorem dX10_law_185 : decode cX10_law 185 = .ok (.aload_n 0, 1) := by decide +kernel
theorem dX10_law_186 : decode cX10_law 186 = .ok (.getfield 215, 3) := by decide +kernel
theorem dX10_law_189 : decode cX10_law 189 = .ok (.ireturn, 1) := by decide +kernel
theorem dX10_reckon_0 : decode cX10_reckon 0 = .ok (.iload_n 0, 1) := by decide +kernel
theorem dX10_reckon_1 : decode cX10_reckon 1 = .ok (.tableswitch 85 2 8 #[43, 47, 51, 55, 59, 63, 74], 43) := by decide +kernel
theorem dX10_reckon_44 : decode cX10_reckon 44 = .ok (.iload_n 1, 1) := by decide +kernel
theorem dX10_reckon_45 : decode cX10_reckon 45 = .ok (.iload_n 2, 1) := by decide +kernel
theorem dX10_reckon_46 : decode cX10_reckon 46 = .ok (.iadd, 1) := by decide +kernel
theorem dX10_reckon_47 : decode cX10_reckon 47 = .ok (.ireturn, 1) := by decide +kernel
theorem dX10_reckon_48 : decode cX10_reckon 48 = .ok (.iload_n 1, 1) := by decide +kernel
theorem dX10_reckon_49 : decode cX10_reckon 49 = .ok (.iload_n 2, 1) := by decide +kernel
theorem dX10_reckon_50 : decode cX10_reckon 50 = .ok (.isub, 1) := by decide +kernel
theorem dX10_reckon_51 : decode cX10_reckon 51 = .ok (.ireturn, 1) := by decide +kernel
theorem dX10_reckon_52 : decode cX10_reckon 52 = .ok (.iload_n 1, 1) := by decide +kernel
theorem dX10_reckon_53 : decode cX10_reckon 53 = .ok (.iload_n 2, 1) := by decide +kernel
theorem dX10_reckon_54 : decode cX10_reckon 54 = .ok (.imul, 1) := by decide +kernel
theorem dX10_reckon_55 : decode cX10_reckon 55 = .ok (.ireturn, 1) := by decide +kernel
theorem dX10_reckon_56 : decode cX10_reckon 56 = .ok (.iload_n 1, 1) := by decide +kernel
theorem dX10_reckon_57 : decode cX10_reckon 57 = .ok (.iload_n 2, 1) := by decide +kernel
theorem dX10_reckon_58 : decode cX10_reckon 58 = .ok (.idiv, 1) := by decide +kernel
theorem dX10_reckon_59 : decode cX10_reckon 59 = .ok (.ireturn, 1) := by decide +kernel
theorem dX10_reckon_60 : decode cX10_reckon 60 = .ok (.iload_n 1, 1) := by decide +kernel
theorem dX10_reckon_61 : decode cX10_reckon 61 = .ok (.iload_n 2, 1) := by decide +kernel
theorem dX10_reckon_62 : decode cX10_reckon 62 = .ok (.irem, 1) := by decide +kernel
theorem dX10_reckon_63 : decode cX10_reckon 63 = .ok (.ireturn, 1) := by decide +kernel
theorem dX10_reckon_64 : decode cX10_reckon 64 = .ok (.iload_n 1, 1) := by decide +kernel
theorem dX10_reckon_65 : decode cX10_reckon 65 = .ok (.iload_n 2, 1) := by decide +kernel
theorem dX10_reckon_66 : decode cX10_reckon 66 = .ok (.if_icmp .ge 7, 3) := by decide +kernel
theorem dX10_reckon_69 : decode cX10_reckon 69 = .ok (.iconst 1, 1) := by decide +kernel
theorem dX10_reckon_70 : decode cX10_reckon 70 = .ok (.goto 4, 3) := by decide +kernel
theorem dX10_reckon_73 : decode cX10_reckon 73 = .ok (.iconst 0, 1) := by decide +kernel
theorem dX10_reckon_74 : decode cX10_reckon 74 = .ok (.ireturn, 1) := by decide +kernel
theorem dX10_reckon_75 : decode cX10_reckon 75 = .ok (.iload_n 1, 1) := by decide +kernel
theorem dX10_reckon_76 : decode cX10_reckon 76 = .ok (.iload_n 2, 1) := by decide +kernel
theorem dX10_reckon_77 : decode cX10_reckon 77 = .ok (.if_icmp .le 7, 3) := by decide +kernel
theorem dX10_reckon_80 : decode cX10_reckon 80 = .ok (.iconst 1, 1) := by decide +kernel
theorem dX10_reckon_81 : decode cX10_reckon 81 = .ok (.goto 4, 3) := by decide +kernel
theorem dX10_reckon_84 : decode cX10_reckon 84 = .ok (.iconst 0, 1) := by decide +kernel
theorem dX10_reckon_85 : decode cX10_reckon 85 = .ok (.ireturn, 1) := by decide +kernel
theorem dX10_reckon_86 : decode cX10_reckon 86 = .ok (.iload_n 1, 1) := by decide +kernel
theorem dX10_reckon_87 : decode cX10_reckon 87 = .ok (.iload_n 2, 1) := by decide +kernel
theorem dX10_reckon_88 : decode cX10_reckon 88 = .ok (.if_icmp .ne 7, 3) := by decide +kernel
theorem dX10_reckon_91 : decode cX10_reckon 91 = .ok (.iconst 1, 1) := by decide +kernel
theorem dX10_reckon_92 : decode cX10_reckon 92 = .ok (.goto 4, 3) := by decide +kernel
theorem dX10_reckon_95 : decode cX10_reckon 95 = .ok (.iconst 0, 1) := by decide +kernel
theorem dX10_reckon_96 : decode cX10_reckon 96 = .ok (.ireturn, 1) := by decide +kernel
set_option maxRecDepth 20000 in
theorem ggX10_comesTo_X10_reckon : GoodIn wsX10_comesTo wsX10_reckon := goodIn_r _ [8] (by decide +kernel) (by decide +kernel)
set_option maxRecDepth 20000 in
theorem gX10_comesTo_X10_reckon : GoodIn wsX10_comesTo (va_wsS RX10 233 yX10_reckon wsX10_reckon) := goodIn_app (goodIn_of _ (by decide +kernel)) ggX10_comesTo_X10_reckon
theorem dX10_comesTo_0 : decode cX10_comesTo 0 = .ok (.iconst 0, 1) := by decide +kernel
theorem dX10_comesTo_1 : decode cX10_comesTo 1 = .ok (.istore_n 3, 1) := by decide +kernel
theorem dX10_comesTo_2 : decode cX10_comesTo 2 = .ok (.sipush 260, 3) := by decide +kernel
theorem dX10_comesTo_5 : decode cX10_comesTo 5 = .ok (.iload_n 1, 1) := by decide +kernel
theorem dX10_comesTo_6 : decode cX10_comesTo 6 = .ok (.sipush 260, 3) := by decide +kernel
theorem dX10_comesTo_9 : decode cX10_comesTo 9 = .ok (.idiv, 1) := by decide +kernel
theorem dX10_comesTo_10 : decode cX10_comesTo 10 = .ok (.imul, 1) := by decide +kernel
theorem dX10_comesTo_11 : decode cX10_comesTo 11 = .ok (.istore 4, 2) := by decide +kernel
theorem dX10_comesTo_13 : decode cX10_comesTo 13 = .ok (.iload_n 1, 1) := by decide +kernel
theorem dX10_comesTo_14 : decode cX10_comesTo 14 = .ok (.istore 5, 2) := by decide +kernel
theorem dX10_comesTo_16 : decode cX10_comesTo 16 = .ok (.iload 5, 2) := by decide +kernel
theorem dX10_comesTo_18 : decode cX10_comesTo 18 = .ok (.iload_n 2, 1) := by decide +kernel
theorem dX10_comesTo_19 : decode cX10_comesTo 19 = .ok (.if_icmp .ge 214, 3) := by decide +kernel
theorem dX10_comesTo_22 : decode cX10_comesTo 22 = .ok (.aload_n 0, 1) := by decide +kernel
theorem dX10_comesTo_23 : decode cX10_comesTo 23 = .ok (.getfield 50, 3) := by decide +kernel
theorem dX10_comesTo_26 : decode cX10_comesTo 26 = .ok (.iload 5, 2) := by decide +kernel
theorem dX10_comesTo_28 : decode cX10_comesTo 28 = .ok (.iaload, 1) := by decide +kernel
theorem dX10_comesTo_29 : decode cX10_comesTo 29 = .ok (.ldc 86, 2) := by decide +kernel
theorem dX10_comesTo_31 : decode cX10_comesTo 31 = .ok (.idiv, 1) := by decide +kernel
theorem dX10_comesTo_32 : decode cX10_comesTo 32 = .ok (.istore 6, 2) := by decide +kernel
theorem dX10_comesTo_34 : decode cX10_comesTo 34 = .ok (.aload_n 0, 1) := by decide +kernel
theorem dX10_comesTo_35 : decode cX10_comesTo 35 = .ok (.getfield 50, 3) := by decide +kernel
theorem dX10_comesTo_38 : decode cX10_comesTo 38 = .ok (.iload 5, 2) := by decide +kernel
theorem dX10_comesTo_40 : decode cX10_comesTo 40 = .ok (.iaload, 1) := by decide +kernel
theorem dX10_comesTo_41 : decode cX10_comesTo 41 = .ok (.ldc 86, 2) := by decide +kernel
theorem dX10_comesTo_43 : decode cX10_comesTo 43 = .ok (.irem, 1) := by decide +kernel
theorem dX10_comesTo_44 : decode cX10_comesTo 44 = .ok (.istore 7, 2) := by decide +kernel
theorem dX10_comesTo_46 : decode cX10_comesTo 46 = .ok (.iload 5, 2) := by decide +kernel
theorem dX10_comesTo_48 : decode cX10_comesTo 48 = .ok (.iconst 1, 1) := by decide +kernel
theorem dX10_comesTo_49 : decode cX10_comesTo 49 = .ok (.iadd, 1) := by decide +kernel
theorem dX10_comesTo_50 : decode cX10_comesTo 50 = .ok (.istore 5, 2) := by decide +kernel
theorem dX10_comesTo_52 : decode cX10_comesTo 52 = .ok (.iload 6, 2) := by decide +kernel
theorem dX10_comesTo_54 : decode cX10_comesTo 54 = .ok (.ifCond .eq 9, 3) := by decide +kernel
theorem dX10_comesTo_57 : decode cX10_comesTo 57 = .ok (.iload 6, 2) := by decide +kernel
theorem dX10_comesTo_59 : decode cX10_comesTo 59 = .ok (.iconst 1, 1) := by decide +kernel
theorem dX10_comesTo_60 : decode cX10_comesTo 60 = .ok (.if_icmp .ne 33, 3) := by decide +kernel
theorem dX10_comesTo_63 : decode cX10_comesTo 63 = .ok (.aload_n 0, 1) := by decide +kernel
theorem dX10_comesTo_64 : decode cX10_comesTo 64 = .ok (.getfield 65, 3) := by decide +kernel
theorem dX10_comesTo_67 : decode cX10_comesTo 67 = .ok (.iload_n 3, 1) := by decide +kernel
theorem dX10_comesTo_68 : decode cX10_comesTo 68 = .ok (.iload 6, 2) := by decide +kernel
theorem dX10_comesTo_70 : decode cX10_comesTo 70 = .ok (.ifCond .ne 8, 3) := by decide +kernel
theorem dX10_comesTo_73 : decode cX10_comesTo 73 = .ok (.iload 7, 2) := by decide +kernel
theorem dX10_comesTo_75 : decode cX10_comesTo 75 = .ok (.goto 10, 3) := by decide +kernel
theorem dX10_comesTo_78 : decode cX10_comesTo 78 = .ok (.aload_n 0, 1) := by decide +kernel
theorem dX10_comesTo_79 : decode cX10_comesTo 79 = .ok (.getfield 68, 3) := by decide +kernel
theorem dX10_comesTo_82 : decode cX10_comesTo 82 = .ok (.iload 7, 2) := by decide +kernel
theorem dX10_comesTo_84 : decode cX10_comesTo 84 = .ok (.iaload, 1) := by decide +kernel
theorem dX10_comesTo_85 : decode cX10_comesTo 85 = .ok (.iastore, 1) := by decide +kernel
theorem dX10_comesTo_86 : decode cX10_comesTo 86 = .ok (.iload_n 3, 1) := by decide +kernel
theorem dX10_comesTo_87 : decode cX10_comesTo 87 = .ok (.iconst 1, 1) := by decide +kernel
theorem dX10_comesTo_88 : decode cX10_comesTo 88 = .ok (.iadd, 1) := by decide +kernel
theorem dX10_comesTo_89 : decode cX10_comesTo 89 = .ok (.istore_n 3, 1) := by decide +kernel
theorem dX10_comesTo_90 : decode cX10_comesTo 90 = .ok (.goto 140, 3) := by decide +kernel
theorem dX10_comesTo_93 : decode cX10_comesTo 93 = .ok (.iload 6, 2) := by decide +kernel
theorem dX10_comesTo_95 : decode cX10_comesTo 95 = .ok (.bipush 10, 2) := by decide +kernel
theorem dX10_comesTo_97 : decode cX10_comesTo 97 = .ok (.if_icmp .ne 24, 3) := by decide +kernel
theorem dX10_comesTo_100 : decode cX10_comesTo 100 = .ok (.aload_n 0, 1) := by decide +kernel
theorem dX10_comesTo_101 : decode cX10_comesTo 101 = .ok (.getfield 65, 3) := by decide +kernel
theorem dX10_comesTo_104 : decode cX10_comesTo 104 = .ok (.iload_n 3, 1) := by decide +kernel
theorem dX10_comesTo_105 : decode cX10_comesTo 105 = .ok (.iconst 1, 1) := by decide +kernel
theorem dX10_comesTo_106 : decode cX10_comesTo 106 = .ok (.isub, 1) := by decide +kernel
theorem dX10_comesTo_107 : decode cX10_comesTo 107 = .ok (.iconst 1, 1) := by decide +kernel
theorem dX10_comesTo_108 : decode cX10_comesTo 108 = .ok (.aload_n 0, 1) := by decide +kernel
theorem dX10_comesTo_109 : decode cX10_comesTo 109 = .ok (.getfield 65, 3) := by decide +kernel
theorem dX10_comesTo_112 : decode cX10_comesTo 112 = .ok (.iload_n 3, 1) := by decide +kernel
theorem dX10_comesTo_113 : decode cX10_comesTo 113 = .ok (.iconst 1, 1) := by decide +kernel
theorem dX10_comesTo_114 : decode cX10_comesTo 114 = .ok (.isub, 1) := by decide +kernel
theorem dX10_comesTo_115 : decode cX10_comesTo 115 = .ok (.iaload, 1) := by decide +kernel
theorem dX10_comesTo_116 : decode cX10_comesTo 116 = .ok (.isub, 1) := by decide +kernel
theorem dX10_comesTo_117 : decode cX10_comesTo 117 = .ok (.iastore, 1) := by decide +kernel
theorem dX10_comesTo_118 : decode cX10_comesTo 118 = .ok (.goto 112, 3) := by decide +kernel
theorem dX10_comesTo_121 : decode cX10_comesTo 121 = .ok (.iload 6, 2) := by decide +kernel
theorem dX10_comesTo_123 : decode cX10_comesTo 123 = .ok (.bipush 11, 2) := by decide +kernel
theorem dX10_comesTo_125 : decode cX10_comesTo 125 = .ok (.if_icmp .eq 10, 3) := by decide +kernel
theorem dX10_comesTo_128 : decode cX10_comesTo 128 = .ok (.iload 6, 2) := by decide +kernel
theorem dX10_comesTo_130 : decode cX10_comesTo 130 = .ok (.bipush 12, 2) := by decide +kernel
theorem dX10_comesTo_132 : decode cX10_comesTo 132 = .ok (.if_icmp .ne 43, 3) := by decide +kernel
theorem dX10_comesTo_135 : decode cX10_comesTo 135 = .ok (.aload_n 0, 1) := by decide +kernel
theorem dX10_comesTo_136 : decode cX10_comesTo 136 = .ok (.getfield 65, 3) := by decide +kernel
theorem dX10_comesTo_139 : decode cX10_comesTo 139 = .ok (.iload_n 3, 1) := by decide +kernel
theorem dX10_comesTo_140 : decode cX10_comesTo 140 = .ok (.iconst 1, 1) := by decide +kernel
theorem dX10_comesTo_141 : decode cX10_comesTo 141 = .ok (.isub, 1) := by decide +kernel
theorem dX10_comesTo_142 : decode cX10_comesTo 142 = .ok (.iaload, 1) := by decide +kernel
theorem dX10_comesTo_143 : decode cX10_comesTo 143 = .ok (.iload 6, 2) := by decide +kernel
theorem dX10_comesTo_145 : decode cX10_comesTo 145 = .ok (.bipush 12, 2) := by decide +kernel
theorem dX10_comesTo_147 : decode cX10_comesTo 147 = .ok (.if_icmp .ne 7, 3) := by decide +kernel
theorem dX10_comesTo_150 : decode cX10_comesTo 150 = .ok (.iconst 1, 1) := by decide +kernel
theorem dX10_comesTo_151 : decode cX10_comesTo 151 = .ok (.goto 4, 3) := by decide +kernel
theorem dX10_comesTo_154 : decode cX10_comesTo 154 = .ok (.iconst 0, 1) := by decide +kernel
theorem dX10_comesTo_155 : decode cX10_comesTo 155 = .ok (.if_icmp .ne 13, 3) := by decide +kernel
theorem dX10_comesTo_158 : decode cX10_comesTo 158 = .ok (.iload 4, 2) := by decide +kernel
theorem dX10_comesTo_160 : decode cX10_comesTo 160 = .ok (.iload 7, 2) := by decide +kernel
theorem dX10_comesTo_162 : decode cX10_comesTo 162 = .ok (.iadd, 1) := by decide +kernel
theorem dX10_comesTo_163 : decode cX10_comesTo 163 = .ok (.istore 5, 2) := by decide +kernel
theorem dX10_comesTo_165 : decode cX10_comesTo 165 = .ok (.goto 65, 3) := by decide +kernel
theorem dX10_comesTo_168 : decode cX10_comesTo 168 = .ok (.iload_n 3, 1) := by decide +kernel
theorem dX10_comesTo_169 : decode cX10_comesTo 169 = .ok (.iconst 1, 1) := by decide +kernel
theorem dX10_comesTo_170 : decode cX10_comesTo 170 = .ok (.isub, 1) := by decide +kernel
theorem dX10_comesTo_171 : decode cX10_comesTo 171 = .ok (.istore_n 3, 1) := by decide +kernel
theorem dX10_comesTo_172 : decode cX10_comesTo 172 = .ok (.goto 58, 3) := by decide +kernel
theorem dX10_comesTo_175 : decode cX10_comesTo 175 = .ok (.iload_n 3, 1) := by decide +kernel
theorem dX10_comesTo_176 : decode cX10_comesTo 176 = .ok (.iconst 1, 1) := by decide +kernel
theorem dX10_comesTo_177 : decode cX10_comesTo 177 = .ok (.isub, 1) := by decide +kernel
theorem dX10_comesTo_178 : decode cX10_comesTo 178 = .ok (.istore_n 3, 1) := by decide +kernel
theorem dX10_comesTo_179 : decode cX10_comesTo 179 = .ok (.iload 6, 2) := by decide +kernel
theorem dX10_comesTo_181 : decode cX10_comesTo 181 = .ok (.iconst 5, 1) := by decide +kernel
theorem dX10_comesTo_182 : decode cX10_comesTo 182 = .ok (.if_icmp .eq 10, 3) := by decide +kernel
theorem dX10_comesTo_185 : decode cX10_comesTo 185 = .ok (.iload 6, 2) := by decide +kernel
theorem dX10_comesTo_187 : decode cX10_comesTo 187 = .ok (.bipush 6, 2) := by decide +kernel
theorem dX10_comesTo_189 : decode cX10_comesTo 189 = .ok (.if_icmp .ne 14, 3) := by decide +kernel
theorem dX10_comesTo_192 : decode cX10_comesTo 192 = .ok (.aload_n 0, 1) := by decide +kernel
theorem dX10_comesTo_193 : decode cX10_comesTo 193 = .ok (.getfield 65, 3) := by decide +kernel
theorem dX10_comesTo_196 : decode cX10_comesTo 196 = .ok (.iload_n 3, 1) := by decide +kernel
theorem dX10_comesTo_197 : decode cX10_comesTo 197 = .ok (.iaload, 1) := by decide +kernel
theorem dX10_comesTo_198 : decode cX10_comesTo 198 = .ok (.ifCond .ne 5, 3) := by decide +kernel
theorem dX10_comesTo_201 : decode cX10_comesTo 201 = .ok (.iconst 0, 1) := by decide +kernel
theorem dX10_comesTo_202 : decode cX10_comesTo 202 = .ok (.ireturn, 1) := by decide +kernel
theorem dX10_comesTo_203 : decode cX10_comesTo 203 = .ok (.aload_n 0, 1) := by decide +kernel
theorem dX10_comesTo_204 : decode cX10_comesTo 204 = .ok (.getfield 65, 3) := by decide +kernel
theorem dX10_comesTo_207 : decode cX10_comesTo 207 = .ok (.iload_n 3, 1) := by decide +kernel
theorem dX10_comesTo_208 : decode cX10_comesTo 208 = .ok (.iconst 1, 1) := by decide +kernel
theorem dX10_comesTo_209 : decode cX10_comesTo 209 = .ok (.isub, 1) := by decide +kernel
theorem dX10_comesTo_210 : decode cX10_comesTo 210 = .ok (.iload 6, 2) := by decide +kernel
theorem dX10_comesTo_212 : decode cX10_comesTo 212 = .ok (.aload_n 0, 1) := by decide +kernel
theorem dX10_comesTo_213 : decode cX10_comesTo 213 = .ok (.getfield 65, 3) := by decide +kernel
theorem dX10_comesTo_216 : decode cX10_comesTo 216 = .ok (.iload_n 3, 1) := by decide +kernel
theorem dX10_comesTo_217 : decode cX10_comesTo 217 = .ok (.iconst 1, 1) := by decide +kernel
theorem dX10_comesTo_218 : decode cX10_comesTo 218 = .ok (.isub, 1) := by decide +kernel
theorem dX10_comesTo_219 : decode cX10_comesTo 219 = .ok (.iaload, 1) := by decide +kernel
theorem dX10_comesTo_220 : decode cX10_comesTo 220 = .ok (.aload_n 0, 1) := by decide +kernel
theorem dX10_comesTo_221 : decode cX10_comesTo 221 = .ok (.getfield 65, 3) := by decide +kernel
theorem dX10_comesTo_224 : decode cX10_comesTo 224 = .ok (.iload_n 3, 1) := by decide +kernel
theorem dX10_comesTo_225 : decode cX10_comesTo 225 = .ok (.iaload, 1) := by decide +kernel
theorem dX10_comesTo_226 : decode cX10_comesTo 226 = .ok (.invokestatic 233, 3) := by decide +kernel
theorem dX10_comesTo_229 : decode cX10_comesTo 229 = .ok (.iastore, 1) := by decide +kernel
theorem dX10_comesTo_230 : decode cX10_comesTo 230 = .ok (.goto (-214), 3) := by decide +kernel
theorem dX10_comesTo_233 : decode cX10_comesTo 233 = .ok (.aload_n 0, 1) := by decide +kernel
theorem dX10_comesTo_234 : decode cX10_comesTo 234 = .ok (.getfield 65, 3) := by decide +kernel
theorem dX10_comesTo_237 : decode cX10_comesTo 237 = .ok (.iconst 0, 1) := by decide +kernel
theorem dX10_comesTo_238 : decode cX10_comesTo 238 = .ok (.iaload, 1) := by decide +kernel
theorem dX10_comesTo_239 : decode cX10_comesTo 239 = .ok (.ireturn, 1) := by decide +kernel
set_option maxRecDepth 20000 in
theorem ggX10_byLaw_X10_comesTo : GoodIn wsX10_byLaw wsX10_comesTo := goodIn_r _ [10, 11, 12, 13, 14, 15, 16, 9, 17, 18, 19, 20, 21, 22, 23, 24, 25, 26, 27, 28, 29, 30, 31, 32, 33, 34, 35, 36, 37, 38, 39, 40, 41, 42, 43, 44, 45, 46, 47, 48, 49, 50, 51, 52, 53, 54, 55, 56, 57, 58, 59, 60, 61, 62, 63, 64, 65, 66, 67, 68, 69] (by decide +kernel) (by decide +kernel)
set_option maxRecDepth 20000 in
theorem gX10_byLaw_X10_comesTo : GoodIn wsX10_byLaw (wsV RX10 237 RX10 yX10_comesTo wsX10_comesTo) := goodIn_app (goodIn_of _ (by decide +kernel)) ggX10_byLaw_X10_comesTo
theorem dX10_byLaw_0 : decode cX10_byLaw 0 = .ok (.iconst 0, 1) := by decide +kernel
theorem dX10_byLaw_1 : decode cX10_byLaw 1 = .ok (.istore_n 3, 1) := by decide +kernel
theorem dX10_byLaw_2 : decode cX10_byLaw 2 = .ok (.iload_n 3, 1) := by decide +kernel
theorem dX10_byLaw_3 : decode cX10_byLaw 3 = .ok (.aload_n 0, 1) := by decide +kernel
theorem dX10_byLaw_4 : decode cX10_byLaw 4 = .ok (.getfield 230, 3) := by decide +kernel
theorem dX10_byLaw_7 : decode cX10_byLaw 7 = .ok (.if_icmp .ge 82, 3) := by decide +kernel
theorem dX10_byLaw_10 : decode cX10_byLaw 10 = .ok (.aload_n 0, 1) := by decide +kernel
theorem dX10_byLaw_11 : decode cX10_byLaw 11 = .ok (.getfield 53, 3) := by decide +kernel
theorem dX10_byLaw_14 : decode cX10_byLaw 14 = .ok (.iload_n 3, 1) := by decide +kernel
theorem dX10_byLaw_15 : decode cX10_byLaw 15 = .ok (.iaload, 1) := by decide +kernel
theorem dX10_byLaw_16 : decode cX10_byLaw 16 = .ok (.iload_n 1, 1) := by decide +kernel
theorem dX10_byLaw_17 : decode cX10_byLaw 17 = .ok (.if_icmp .ne 66, 3) := by decide +kernel
theorem dX10_byLaw_20 : decode cX10_byLaw 20 = .ok (.aload_n 0, 1) := by decide +kernel
theorem dX10_byLaw_21 : decode cX10_byLaw 21 = .ok (.aload_n 0, 1) := by decide +kernel
theorem dX10_byLaw_22 : decode cX10_byLaw 22 = .ok (.getfield 59, 3) := by decide +kernel
theorem dX10_byLaw_25 : decode cX10_byLaw 25 = .ok (.iload_n 3, 1) := by decide +kernel
theorem dX10_byLaw_26 : decode cX10_byLaw 26 = .ok (.iaload, 1) := by decide +kernel
theorem dX10_byLaw_27 : decode cX10_byLaw 27 = .ok (.aload_n 0, 1) := by decide +kernel
theorem dX10_byLaw_28 : decode cX10_byLaw 28 = .ok (.getfield 62, 3) := by decide +kernel
theorem dX10_byLaw_31 : decode cX10_byLaw 31 = .ok (.iload_n 3, 1) := by decide +kernel
theorem dX10_byLaw_32 : decode cX10_byLaw 32 = .ok (.iaload, 1) := by decide +kernel
theorem dX10_byLaw_33 : decode cX10_byLaw 33 = .ok (.invokevirtual 237, 3) := by decide +kernel
theorem dX10_byLaw_36 : decode cX10_byLaw 36 = .ok (.iconst 1, 1) := by decide +kernel
theorem dX10_byLaw_37 : decode cX10_byLaw 37 = .ok (.if_icmp .eq 6, 3) := by decide +kernel
theorem dX10_byLaw_40 : decode cX10_byLaw 40 = .ok (.goto 43, 3) := by decide +kernel
theorem dX10_byLaw_43 : decode cX10_byLaw 43 = .ok (.aload_n 0, 1) := by decide +kernel
theorem dX10_byLaw_44 : decode cX10_byLaw 44 = .ok (.aload_n 0, 1) := by decide +kernel
theorem dX10_byLaw_45 : decode cX10_byLaw 45 = .ok (.getfield 56, 3) := by decide +kernel
theorem dX10_byLaw_48 : decode cX10_byLaw 48 = .ok (.iload_n 3, 1) := by decide +kernel
theorem dX10_byLaw_49 : decode cX10_byLaw 49 = .ok (.iaload, 1) := by decide +kernel
theorem dX10_byLaw_50 : decode cX10_byLaw 50 = .ok (.aload_n 0, 1) := by decide +kernel
theorem dX10_byLaw_51 : decode cX10_byLaw 51 = .ok (.getfield 59, 3) := by decide +kernel
theorem dX10_byLaw_54 : decode cX10_byLaw 54 = .ok (.iload_n 3, 1) := by decide +kernel
theorem dX10_byLaw_55 : decode cX10_byLaw 55 = .ok (.iaload, 1) := by decide +kernel
theorem dX10_byLaw_56 : decode cX10_byLaw 56 = .ok (.invokevirtual 237, 3) := by decide +kernel
theorem dX10_byLaw_59 : decode cX10_byLaw 59 = .ok (.istore 4, 2) := by decide +kernel
theorem dX10_byLaw_61 : decode cX10_byLaw 61 = .ok (.iload 4, 2) := by decide +kernel
theorem dX10_byLaw_63 : decode cX10_byLaw 63 = .ok (.ifCond .ge 7, 3) := by decide +kernel
theorem dX10_byLaw_66 : decode cX10_byLaw 66 = .ok (.iconst 0, 1) := by decide +kernel
theorem dX10_byLaw_67 : decode cX10_byLaw 67 = .ok (.goto 15, 3) := by decide +kernel
theorem dX10_byLaw_70 : decode cX10_byLaw 70 = .ok (.iload 4, 2) := by decide +kernel
theorem dX10_byLaw_72 : decode cX10_byLaw 72 = .ok (.iload_n 2, 1) := by decide +kernel
theorem dX10_byLaw_73 : decode cX10_byLaw 73 = .ok (.if_icmp .le 7, 3) := by decide +kernel
theorem dX10_byLaw_76 : decode cX10_byLaw 76 = .ok (.iload_n 2, 1) := by decide +kernel
theorem dX10_byLaw_77 : decode cX10_byLaw 77 = .ok (.goto 5, 3) := by decide +kernel
theorem dX10_byLaw_80 : decode cX10_byLaw 80 = .ok (.iload 4, 2) := by decide +kernel
theorem dX10_byLaw_82 : decode cX10_byLaw 82 = .ok (.ireturn, 1) := by decide +kernel
theorem dX10_byLaw_83 : decode cX10_byLaw 83 = .ok (.iinc 3 1, 3) := by decide +kernel
theorem dX10_byLaw_86 : decode cX10_byLaw 86 = .ok (.goto (-84), 3) := by decide +kernel
theorem dX10_byLaw_89 : decode cX10_byLaw 89 = .ok (.iconst 0, 1) := by decide +kernel
theorem dX10_byLaw_90 : decode cX10_byLaw 90 = .ok (.ireturn, 1) := by decide +kernel
set_option maxRecDepth 20000 in
theorem ggX10_holdsAny_X10_comesTo : GoodIn wsX10_holdsAny wsX10_comesTo := goodIn_r _ [9, 10, 11, 12, 13, 14, 15, 8, 16, 17, 18, 19, 20, 21, 22, 23, 24, 25, 26, 27, 28, 29, 30, 31, 32, 33, 34, 35, 36, 37, 38, 39, 40, 41, 42, 43, 44, 45, 46, 47, 48, 49, 50, 51, 52, 53, 54, 55, 56, 57, 58, 59, 60, 61, 62, 63, 64, 65, 66, 67, 68] (by decide +kernel) (by decide +kernel)
set_option maxRecDepth 20000 in
theorem gX10_holdsAny_X10_comesTo : GoodIn wsX10_holdsAny (wsV RX10 237 RX10 yX10_comesTo wsX10_comesTo) := goodIn_app (goodIn_of _ (by decide +kernel)) ggX10_holdsAny_X10_comesTo
theorem dX10_holdsAny_0 : decode cX10_holdsAny 0 = .ok (.iconst 0, 1) := by decide +kernel
theorem dX10_holdsAny_1 : decode cX10_holdsAny 1 = .ok (.istore_n 2, 1) := by decide +kernel
theorem dX10_holdsAny_2 : decode cX10_holdsAny 2 = .ok (.iload_n 2, 1) := by decide +kernel
theorem dX10_holdsAny_3 : decode cX10_holdsAny 3 = .ok (.aload_n 0, 1) := by decide +kernel
theorem dX10_holdsAny_4 : decode cX10_holdsAny 4 = .ok (.getfield 230, 3) := by decide +kernel
theorem dX10_holdsAny_7 : decode cX10_holdsAny 7 = .ok (.if_icmp .ge 41, 3) := by decide +kernel
theorem dX10_holdsAny_10 : decode cX10_holdsAny 10 = .ok (.aload_n 0, 1) := by decide +kernel
theorem dX10_holdsAny_11 : decode cX10_holdsAny 11 = .ok (.getfield 53, 3) := by decide +kernel
theorem dX10_holdsAny_14 : decode cX10_holdsAny 14 = .ok (.iload_n 2, 1) := by decide +kernel
theorem dX10_holdsAny_15 : decode cX10_holdsAny 15 = .ok (.iaload, 1) := by decide +kernel
theorem dX10_holdsAny_16 : decode cX10_holdsAny 16 = .ok (.iload_n 1, 1) := by decide +kernel
theorem dX10_holdsAny_17 : decode cX10_holdsAny 17 = .ok (.if_icmp .ne 25, 3) := by decide +kernel
theorem dX10_holdsAny_20 : decode cX10_holdsAny 20 = .ok (.aload_n 0, 1) := by decide +kernel
theorem dX10_holdsAny_21 : decode cX10_holdsAny 21 = .ok (.aload_n 0, 1) := by decide +kernel
theorem dX10_holdsAny_22 : decode cX10_holdsAny 22 = .ok (.getfield 59, 3) := by decide +kernel
theorem dX10_holdsAny_25 : decode cX10_holdsAny 25 = .ok (.iload_n 2, 1) := by decide +kernel
theorem dX10_holdsAny_26 : decode cX10_holdsAny 26 = .ok (.iaload, 1) := by decide +kernel
theorem dX10_holdsAny_27 : decode cX10_holdsAny 27 = .ok (.aload_n 0, 1) := by decide +kernel
theorem dX10_holdsAny_28 : decode cX10_holdsAny 28 = .ok (.getfield 62, 3) := by decide +kernel
theorem dX10_holdsAny_31 : decode cX10_holdsAny 31 = .ok (.iload_n 2, 1) := by decide +kernel
theorem dX10_holdsAny_32 : decode cX10_holdsAny 32 = .ok (.iaload, 1) := by decide +kernel
theorem dX10_holdsAny_33 : decode cX10_holdsAny 33 = .ok (.invokevirtual 237, 3) := by decide +kernel
theorem dX10_holdsAny_36 : decode cX10_holdsAny 36 = .ok (.iconst 1, 1) := by decide +kernel
theorem dX10_holdsAny_37 : decode cX10_holdsAny 37 = .ok (.if_icmp .ne 5, 3) := by decide +kernel
theorem dX10_holdsAny_40 : decode cX10_holdsAny 40 = .ok (.iconst 1, 1) := by decide +kernel
theorem dX10_holdsAny_41 : decode cX10_holdsAny 41 = .ok (.ireturn, 1) := by decide +kernel
theorem dX10_holdsAny_42 : decode cX10_holdsAny 42 = .ok (.iinc 2 1, 3) := by decide +kernel
theorem dX10_holdsAny_45 : decode cX10_holdsAny 45 = .ok (.goto (-43), 3) := by decide +kernel
theorem dX10_holdsAny_48 : decode cX10_holdsAny 48 = .ok (.iconst 0, 1) := by decide +kernel
theorem dX10_holdsAny_49 : decode cX10_holdsAny 49 = .ok (.ireturn, 1) := by decide +kernel
set_option maxRecDepth 20000 in
theorem ggX10_menNear_X10_has : GoodIn wsX10_menNear wsX10_has := goodIn_r _ [5] (by decide +kernel) (by decide +kernel)
set_option maxRecDepth 20000 in
theorem gX10_menNear_X10_has : GoodIn wsX10_menNear (va_wsS RX10 120 yX10_has wsX10_has) := goodIn_app (goodIn_of _ (by decide +kernel)) ggX10_menNear_X10_has
set_option maxRecDepth 20000 in
theorem ggX10_menNear_X10_menAt : GoodIn wsX10_menNear wsX10_menAt := goodIn_r _ [9, 10, 11, 12, 13, 4, 14, 15, 16, 17, 21, 22, 23, 24, 25, 26, 27, 28, 29, 30, 31, 32, 33, 34, 35, 36, 37, 38, 39, 40, 41, 42, 43, 44, 45, 46, 47, 48, 49, 50, 51, 52, 53, 54, 55, 56, 57, 58, 59, 60, 61, 62, 63, 64, 65, 66, 67, 68, 69, 70, 71, 72] (by decide +kernel) (by decide +kernel)
set_option maxRecDepth 20000 in
theorem gX10_menNear_X10_menAt : GoodIn wsX10_menNear (wsV RX10 241 RX10 yX10_menAt wsX10_menAt) := goodIn_app (goodIn_of _ (by decide +kernel)) ggX10_menNear_X10_menAt
set_option maxRecDepth 20000 in
theorem ggX10_menNear_X10_bits : GoodIn wsX10_menNear wsX10_bits := goodIn_r _ [20] (by decide +kernel) (by decide +kernel)
set_option maxRecDepth 20000 in
theorem gX10_menNear_X10_bits : GoodIn wsX10_menNear (va_wsS RX10 244 yX10_bits wsX10_bits) := goodIn_app (goodIn_of _ (by decide +kernel)) ggX10_menNear_X10_bits
theorem dX10_menNear_0 : decode cX10_menNear 0 = .ok (.iconst 0, 1) := by decide +kernel
theorem dX10_menNear_1 : decode cX10_menNear 1 = .ok (.istore_n 2, 1) := by decide +kernel
theorem dX10_menNear_2 : decode cX10_menNear 2 = .ok (.iconst 0, 1) := by decide +kernel
theorem dX10_menNear_3 : decode cX10_menNear 3 = .ok (.istore_n 3, 1) := by decide +kernel
theorem dX10_menNear_4 : decode cX10_menNear 4 = .ok (.iload_n 3, 1) := by decide +kernel
theorem dX10_menNear_5 : decode cX10_menNear 5 = .ok (.bipush 16, 2) := by decide +kernel
theorem dX10_menNear_7 : decode cX10_menNear 7 = .ok (.if_icmp .ge 33, 3) := by decide +kernel
theorem dX10_menNear_10 : decode cX10_menNear 10 = .ok (.aload_n 0, 1) := by decide +kernel
theorem dX10_menNear_11 : decode cX10_menNear 11 = .ok (.getfield 19, 3) := by decide +kernel
theorem dX10_menNear_14 : decode cX10_menNear 14 = .ok (.iload_n 1, 1) := by decide +kernel
theorem dX10_menNear_15 : decode cX10_menNear 15 = .ok (.iaload, 1) := by decide +kernel
theorem dX10_menNear_16 : decode cX10_menNear 16 = .ok (.iload_n 3, 1) := by decide +kernel
theorem dX10_menNear_17 : decode cX10_menNear 17 = .ok (.invokestatic 120, 3) := by decide +kernel
theorem dX10_menNear_20 : decode cX10_menNear 20 = .ok (.ifCond .eq 14, 3) := by decide +kernel
theorem dX10_menNear_23 : decode cX10_menNear 23 = .ok (.iload_n 2, 1) := by decide +kernel
theorem dX10_menNear_24 : decode cX10_menNear 24 = .ok (.aload_n 0, 1) := by decide +kernel
theorem dX10_menNear_25 : decode cX10_menNear 25 = .ok (.iload_n 3, 1) := by decide +kernel
theorem dX10_menNear_26 : decode cX10_menNear 26 = .ok (.invokevirtual 241, 3) := by decide +kernel
theorem dX10_menNear_29 : decode cX10_menNear 29 = .ok (.invokestatic 244, 3) := by decide +kernel
theorem dX10_menNear_32 : decode cX10_menNear 32 = .ok (.iadd, 1) := by decide +kernel
theorem dX10_menNear_33 : decode cX10_menNear 33 = .ok (.istore_n 2, 1) := by decide +kernel
theorem dX10_menNear_34 : decode cX10_menNear 34 = .ok (.iinc 3 1, 3) := by decide +kernel
theorem dX10_menNear_37 : decode cX10_menNear 37 = .ok (.goto (-33), 3) := by decide +kernel
theorem dX10_menNear_40 : decode cX10_menNear 40 = .ok (.iload_n 2, 1) := by decide +kernel
theorem dX10_menNear_41 : decode cX10_menNear 41 = .ok (.ireturn, 1) := by decide +kernel
set_option maxRecDepth 20000 in
theorem ggX10_feels_X10_menAt : GoodIn wsX10_feels wsX10_menAt := goodIn_r _ [7, 2, 8, 9, 10, 6, 11, 12, 13, 14, 26, 27, 28, 29, 30, 31, 32, 33, 34, 35, 36, 37, 38, 39, 40, 41, 42, 43, 44, 45, 46, 47, 48, 49, 50, 51, 52, 53, 54, 55, 56, 57, 58, 59, 60, 61, 62, 63, 64, 65, 66, 67, 68, 69, 70, 71, 72, 73, 74, 75, 76, 77] (by decide +kernel) (by decide +kernel)
set_option maxRecDepth 20000 in
theorem gX10_feels_X10_menAt : GoodIn wsX10_feels (wsV RX10 241 RX10 yX10_menAt wsX10_menAt) := goodIn_app (goodIn_of _ (by decide +kernel)) ggX10_feels_X10_menAt
set_option maxRecDepth 20000 in
theorem ggX10_feels_X10_bits : GoodIn wsX10_feels wsX10_bits := goodIn_r _ [17] (by decide +kernel) (by decide +kernel)
set_option maxRecDepth 20000 in
theorem gX10_feels_X10_bits : GoodIn wsX10_feels (va_wsS RX10 244 yX10_bits wsX10_bits) := goodIn_app (goodIn_of _ (by decide +kernel)) ggX10_feels_X10_bits
set_option maxRecDepth 20000 in
theorem ggX10_feels_X10_menNear : GoodIn wsX10_feels wsX10_menNear := goodIn_r _ [21, 22, 23, 24, 6, 25, 3, 4, 5, 7, 2, 8, 9, 10, 11, 12, 13, 14, 15, 16, 17, 26, 27, 28, 29, 30, 31, 32, 33, 34, 35, 36, 37, 38, 39, 40, 41, 42, 43, 44, 45, 46, 47, 48, 49, 50, 51, 52, 53, 54, 55, 56, 57, 58, 59, 60, 61, 62, 63, 64, 65, 66, 67, 68, 69, 70, 71, 72, 73, 74, 75, 76, 77] (by decide +kernel) (by decide +kernel)
set_option maxRecDepth 20000 in
theorem gX10_feels_X10_menNear : GoodIn wsX10_feels (wsV RX10 247 RX10 yX10_menNear wsX10_menNear) := goodIn_app (goodIn_of _ (by decide +kernel)) ggX10_feels_X10_menNear
theorem dX10_feels_0 : decode cX10_feels 0 = .ok (.aload_n 0, 1) := by decide +kernel
theorem dX10_feels_1 : decode cX10_feels 1 = .ok (.getfield 68, 3) := by decide +kernel
theorem dX10_feels_4 : decode cX10_feels 4 = .ok (.iconst 0, 1) := by decide +kernel
theorem dX10_feels_5 : decode cX10_feels 5 = .ok (.iload_n 1, 1) := by decide +kernel
theorem dX10_feels_6 : decode cX10_feels 6 = .ok (.iastore, 1) := by decide +kernel
theorem dX10_feels_7 : decode cX10_feels 7 = .ok (.aload_n 0, 1) := by decide +kernel
theorem dX10_feels_8 : decode cX10_feels 8 = .ok (.getfield 68, 3) := by decide +kernel
theorem dX10_feels_11 : decode cX10_feels 11 = .ok (.iconst 1, 1) := by decide +kernel
theorem dX10_feels_12 : decode cX10_feels 12 = .ok (.aload_n 0, 1) := by decide +kernel
theorem dX10_feels_13 : decode cX10_feels 13 = .ok (.getfield 7, 3) := by decide +kernel
theorem dX10_feels_16 : decode cX10_feels 16 = .ok (.iconst 0, 1) := by decide +kernel
theorem dX10_feels_17 : decode cX10_feels 17 = .ok (.iload_n 1, 1) := by decide +kernel
theorem dX10_feels_18 : decode cX10_feels 18 = .ok (.iadd, 1) := by decide +kernel
theorem dX10_feels_19 : decode cX10_feels 19 = .ok (.iaload, 1) := by decide +kernel
theorem dX10_feels_20 : decode cX10_feels 20 = .ok (.iastore, 1) := by decide +kernel
theorem dX10_feels_21 : decode cX10_feels 21 = .ok (.aload_n 0, 1) := by decide +kernel
theorem dX10_feels_22 : decode cX10_feels 22 = .ok (.getfield 68, 3) := by decide +kernel
theorem dX10_feels_25 : decode cX10_feels 25 = .ok (.iconst 2, 1) := by decide +kernel
theorem dX10_feels_26 : decode cX10_feels 26 = .ok (.aload_n 0, 1) := by decide +kernel
theorem dX10_feels_27 : decode cX10_feels 27 = .ok (.getfield 7, 3) := by decide +kernel
theorem dX10_feels_30 : decode cX10_feels 30 = .ok (.bipush 16, 2) := by decide +kernel
theorem dX10_feels_32 : decode cX10_feels 32 = .ok (.iload_n 1, 1) := by decide +kernel
theorem dX10_feels_33 : decode cX10_feels 33 = .ok (.iadd, 1) := by decide +kernel
theorem dX10_feels_34 : decode cX10_feels 34 = .ok (.iaload, 1) := by decide +kernel
theorem dX10_feels_35 : decode cX10_feels 35 = .ok (.iastore, 1) := by decide +kernel
theorem dX10_feels_36 : decode cX10_feels 36 = .ok (.aload_n 0, 1) := by decide +kernel
theorem dX10_feels_37 : decode cX10_feels 37 = .ok (.getfield 68, 3) := by decide +kernel
theorem dX10_feels_40 : decode cX10_feels 40 = .ok (.iconst 3, 1) := by decide +kernel
theorem dX10_feels_41 : decode cX10_feels 41 = .ok (.aload_n 0, 1) := by decide +kernel
theorem dX10_feels_42 : decode cX10_feels 42 = .ok (.iload_n 1, 1) := by decide +kernel
theorem dX10_feels_43 : decode cX10_feels 43 = .ok (.invokevirtual 241, 3) := by decide +kernel
theorem dX10_feels_46 : decode cX10_feels 46 = .ok (.invokestatic 244, 3) := by decide +kernel
theorem dX10_feels_49 : decode cX10_feels 49 = .ok (.iastore, 1) := by decide +kernel
theorem dX10_feels_50 : decode cX10_feels 50 = .ok (.aload_n 0, 1) := by decide +kernel
theorem dX10_feels_51 : decode cX10_feels 51 = .ok (.getfield 68, 3) := by decide +kernel
theorem dX10_feels_54 : decode cX10_feels 54 = .ok (.iconst 4, 1) := by decide +kernel
theorem dX10_feels_55 : decode cX10_feels 55 = .ok (.aload_n 0, 1) := by decide +kernel
theorem dX10_feels_56 : decode cX10_feels 56 = .ok (.iload_n 1, 1) := by decide +kernel
theorem dX10_feels_57 : decode cX10_feels 57 = .ok (.invokevirtual 247, 3) := by decide +kernel
theorem dX10_feels_60 : decode cX10_feels 60 = .ok (.iastore, 1) := by decide +kernel
theorem dX10_feels_61 : decode cX10_feels 61 = .ok (.aload_n 0, 1) := by decide +kernel
theorem dX10_feels_62 : decode cX10_feels 62 = .ok (.getfield 68, 3) := by decide +kernel
theorem dX10_feels_65 : decode cX10_feels 65 = .ok (.iconst 5, 1) := by decide +kernel
theorem dX10_feels_66 : decode cX10_feels 66 = .ok (.aload_n 0, 1) := by decide +kernel
theorem dX10_feels_67 : decode cX10_feels 67 = .ok (.getfield 7, 3) := by decide +kernel
theorem dX10_feels_70 : decode cX10_feels 70 = .ok (.bipush 32, 2) := by decide +kernel
theorem dX10_feels_72 : decode cX10_feels 72 = .ok (.iload_n 1, 1) := by decide +kernel
theorem dX10_feels_73 : decode cX10_feels 73 = .ok (.iadd, 1) := by decide +kernel
theorem dX10_feels_74 : decode cX10_feels 74 = .ok (.iaload, 1) := by decide +kernel
theorem dX10_feels_75 : decode cX10_feels 75 = .ok (.iastore, 1) := by decide +kernel
theorem dX10_feels_76 : decode cX10_feels 76 = .ok (.aload_n 0, 1) := by decide +kernel
theorem dX10_feels_77 : decode cX10_feels 77 = .ok (.getfield 68, 3) := by decide +kernel
theorem dX10_feels_80 : decode cX10_feels 80 = .ok (.bipush 6, 2) := by decide +kernel
theorem dX10_feels_82 : decode cX10_feels 82 = .ok (.aload_n 0, 1) := by decide +kernel
theorem dX10_feels_83 : decode cX10_feels 83 = .ok (.getfield 7, 3) := by decide +kernel
theorem dX10_feels_86 : decode cX10_feels 86 = .ok (.bipush 74, 2) := by decide +kernel
theorem dX10_feels_88 : decode cX10_feels 88 = .ok (.iaload, 1) := by decide +kernel
theorem dX10_feels_89 : decode cX10_feels 89 = .ok (.bipush 24, 2) := by decide +kernel
theorem dX10_feels_91 : decode cX10_feels 91 = .ok (.irem, 1) := by decide +kernel
theorem dX10_feels_92 : decode cX10_feels 92 = .ok (.iastore, 1) := by decide +kernel
theorem dX10_feels_93 : decode cX10_feels 93 = .ok (.aload_n 0, 1) := by decide +kernel
theorem dX10_feels_94 : decode cX10_feels 94 = .ok (.getfield 68, 3) := by decide +kernel
theorem dX10_feels_97 : decode cX10_feels 97 = .ok (.bipush 7, 2) := by decide +kernel
theorem dX10_feels_99 : decode cX10_feels 99 = .ok (.aload_n 0, 1) := by decide +kernel
theorem dX10_feels_100 : decode cX10_feels 100 = .ok (.getfield 7, 3) := by decide +kernel
theorem dX10_feels_103 : decode cX10_feels 103 = .ok (.bipush 73, 2) := by decide +kernel
theorem dX10_feels_105 : decode cX10_feels 105 = .ok (.iaload, 1) := by decide +kernel
theorem dX10_feels_106 : decode cX10_feels 106 = .ok (.iastore, 1) := by decide +kernel
theorem dX10_feels_107 : decode cX10_feels 107 = .ok (.return_, 1) := by decide +kernel
set_option maxRecDepth 20000 in
theorem ggX10_readsTimes_X10_here : GoodIn wsX10_readsTimes wsX10_here := goodIn_r _ [8, 1, 9, 10, 14, 15, 16, 17, 18, 19, 20, 21, 22, 23, 24, 25, 26, 27, 28, 29, 30, 31, 32, 33, 34, 35, 36, 37, 38, 39, 40, 41, 42, 43, 44, 45, 46, 47, 48, 49, 50, 51, 52, 53, 54, 55, 56, 57, 58, 59, 60, 61, 62, 63, 64, 65] (by decide +kernel) (by decide +kernel)
set_option maxRecDepth 20000 in
theorem gX10_readsTimes_X10_here : GoodIn wsX10_readsTimes (wsV RX10 144 RX10 yX10_here wsX10_here) := goodIn_app (goodIn_of _ (by decide +kernel)) ggX10_readsTimes_X10_here
set_option maxRecDepth 20000 in
theorem ggX10_readsTimes_X10_in : GoodIn wsX10_readsTimes wsX10_in := goodIn_r _ [13] (by decide +kernel) (by decide +kernel)
set_option maxRecDepth 20000 in
theorem gX10_readsTimes_X10_in : GoodIn wsX10_readsTimes (va_wsS RX10 112 yX10_in wsX10_in) := goodIn_app (goodIn_of _ (by decide +kernel)) ggX10_readsTimes_X10_in
theorem dX10_readsTimes_0 : decode cX10_readsTimes 0 = .ok (.aload_n 0, 1) := by decide +kernel
theorem dX10_readsTimes_1 : decode cX10_readsTimes 1 = .ok (.aload_n 0, 1) := by decide +kernel
theorem dX10_readsTimes_2 : decode cX10_readsTimes 2 = .ok (.getfield 138, 3) := by decide +kernel
theorem dX10_readsTimes_5 : decode cX10_readsTimes 5 = .ok (.putfield 250, 3) := by decide +kernel
theorem dX10_readsTimes_8 : decode cX10_readsTimes 8 = .ok (.aload_n 0, 1) := by decide +kernel
theorem dX10_readsTimes_9 : decode cX10_readsTimes 9 = .ok (.iconst 1, 1) := by decide +kernel
theorem dX10_readsTimes_10 : decode cX10_readsTimes 10 = .ok (.putfield 253, 3) := by decide +kernel
theorem dX10_readsTimes_13 : decode cX10_readsTimes 13 = .ok (.aload_n 0, 1) := by decide +kernel
theorem dX10_readsTimes_14 : decode cX10_readsTimes 14 = .ok (.invokevirtual 144, 3) := by decide +kernel
theorem dX10_readsTimes_17 : decode cX10_readsTimes 17 = .ok (.bipush 50, 2) := by decide +kernel
theorem dX10_readsTimes_19 : decode cX10_readsTimes 19 = .ok (.bipush 57, 2) := by decide +kernel
theorem dX10_readsTimes_21 : decode cX10_readsTimes 21 = .ok (.invokestatic 112, 3) := by decide +kernel
theorem dX10_readsTimes_24 : decode cX10_readsTimes 24 = .ok (.ifCond .ne 4, 3) := by decide +kernel
theorem dX10_readsTimes_27 : decode cX10_readsTimes 27 = .ok (.return_, 1) := by decide +kernel
theorem dX10_readsTimes_28 : decode cX10_readsTimes 28 = .ok (.aload_n 0, 1) := by decide +kernel
theorem dX10_readsTimes_29 : decode cX10_readsTimes 29 = .ok (.aload_n 0, 1) := by decide +kernel
theorem dX10_readsTimes_30 : decode cX10_readsTimes 30 = .ok (.invokevirtual 144, 3) := by decide +kernel
theorem dX10_readsTimes_33 : decode cX10_readsTimes 33 = .ok (.bipush 48, 2) := by decide +kernel
theorem dX10_readsTimes_35 : decode cX10_readsTimes 35 = .ok (.isub, 1) := by decide +kernel
theorem dX10_readsTimes_36 : decode cX10_readsTimes 36 = .ok (.putfield 253, 3) := by decide +kernel
theorem dX10_readsTimes_39 : decode cX10_readsTimes 39 = .ok (.aload_n 0, 1) := by decide +kernel
theorem dX10_readsTimes_40 : decode cX10_readsTimes 40 = .ok (.aload_n 0, 1) := by decide +kernel
theorem dX10_readsTimes_41 : decode cX10_readsTimes 41 = .ok (.getfield 138, 3) := by decide +kernel
theorem dX10_readsTimes_44 : decode cX10_readsTimes 44 = .ok (.iconst 1, 1) := by decide +kernel
theorem dX10_readsTimes_45 : decode cX10_readsTimes 45 = .ok (.iadd, 1) := by decide +kernel
theorem dX10_readsTimes_46 : decode cX10_readsTimes 46 = .ok (.putfield 138, 3) := by decide +kernel
theorem dX10_readsTimes_49 : decode cX10_readsTimes 49 = .ok (.return_, 1) := by decide +kernel
set_option maxRecDepth 20000 in
theorem ggX10_repeats_X10_wrongAt : GoodIn wsX10_repeats wsX10_wrongAt := goodIn_r _ [7, 8, 9, 10, 11, 12, 13, 14, 15, 16, 17, 18, 19, 20, 21, 22, 23, 24, 25, 26, 27, 28, 29, 30, 31, 32, 33, 34, 35, 36, 37, 38, 39, 40, 41, 42, 43, 44, 45, 46, 47, 48, 49, 50, 51, 52, 53, 54, 55, 56, 57, 58, 59, 60] (by decide +kernel) (by decide +kernel)
set_option maxRecDepth 20000 in
theorem gX10_repeats_X10_wrongAt : GoodIn wsX10_repeats (wsV RX10 151 RX10 yX10_wrongAt wsX10_wrongAt) := goodIn_app (goodIn_of _ (by decide +kernel)) ggX10_repeats_X10_wrongAt
theorem dX10_repeats_0 : decode cX10_repeats 0 = .ok (.aload_n 0, 1) := by decide +kernel
theorem dX10_repeats_1 : decode cX10_repeats 1 = .ok (.getfield 256, 3) := by decide +kernel
theorem dX10_repeats_4 : decode cX10_repeats 4 = .ok (.iload_n 1, 1) := by decide +kernel
theorem dX10_repeats_5 : decode cX10_repeats 5 = .ok (.isub, 1) := by decide +kernel
theorem dX10_repeats_6 : decode cX10_repeats 6 = .ok (.istore 4, 2) := by decide +kernel
theorem dX10_repeats_8 : decode cX10_repeats 8 = .ok (.iload_n 1, 1) := by decide +kernel
theorem dX10_repeats_9 : decode cX10_repeats 9 = .ok (.iload 4, 2) := by decide +kernel
theorem dX10_repeats_11 : decode cX10_repeats 11 = .ok (.iload_n 2, 1) := by decide +kernel
theorem dX10_repeats_12 : decode cX10_repeats 12 = .ok (.imul, 1) := by decide +kernel
theorem dX10_repeats_13 : decode cX10_repeats 13 = .ok (.iadd, 1) := by decide +kernel
theorem dX10_repeats_14 : decode cX10_repeats 14 = .ok (.bipush 48, 2) := by decide +kernel
theorem dX10_repeats_16 : decode cX10_repeats 16 = .ok (.if_icmp .le 11, 3) := by decide +kernel
theorem dX10_repeats_19 : decode cX10_repeats 19 = .ok (.aload_n 0, 1) := by decide +kernel
theorem dX10_repeats_20 : decode cX10_repeats 20 = .ok (.bipush 6, 2) := by decide +kernel
theorem dX10_repeats_22 : decode cX10_repeats 22 = .ok (.iload_n 3, 1) := by decide +kernel
theorem dX10_repeats_23 : decode cX10_repeats 23 = .ok (.invokevirtual 151, 3) := by decide +kernel
theorem dX10_repeats_26 : decode cX10_repeats 26 = .ok (.ireturn, 1) := by decide +kernel
theorem dX10_repeats_27 : decode cX10_repeats 27 = .ok (.iload 4, 2) := by decide +kernel
theorem dX10_repeats_29 : decode cX10_repeats 29 = .ok (.istore 5, 2) := by decide +kernel
theorem dX10_repeats_31 : decode cX10_repeats 31 = .ok (.iload 5, 2) := by decide +kernel
theorem dX10_repeats_33 : decode cX10_repeats 33 = .ok (.iload 4, 2) := by decide +kernel
theorem dX10_repeats_35 : decode cX10_repeats 35 = .ok (.iload_n 2, 1) := by decide +kernel
theorem dX10_repeats_36 : decode cX10_repeats 36 = .ok (.imul, 1) := by decide +kernel
theorem dX10_repeats_37 : decode cX10_repeats 37 = .ok (.if_icmp .ge 30, 3) := by decide +kernel
theorem dX10_repeats_40 : decode cX10_repeats 40 = .ok (.aload_n 0, 1) := by decide +kernel
theorem dX10_repeats_41 : decode cX10_repeats 41 = .ok (.getfield 71, 3) := by decide +kernel
theorem dX10_repeats_44 : decode cX10_repeats 44 = .ok (.iload_n 1, 1) := by decide +kernel
theorem dX10_repeats_45 : decode cX10_repeats 45 = .ok (.iload 5, 2) := by decide +kernel
theorem dX10_repeats_47 : decode cX10_repeats 47 = .ok (.iadd, 1) := by decide +kernel
theorem dX10_repeats_48 : decode cX10_repeats 48 = .ok (.aload_n 0, 1) := by decide +kernel
theorem dX10_repeats_49 : decode cX10_repeats 49 = .ok (.getfield 71, 3) := by decide +kernel
theorem dX10_repeats_52 : decode cX10_repeats 52 = .ok (.iload_n 1, 1) := by decide +kernel
theorem dX10_repeats_53 : decode cX10_repeats 53 = .ok (.iload 5, 2) := by decide +kernel
theorem dX10_repeats_55 : decode cX10_repeats 55 = .ok (.iadd, 1) := by decide +kernel
theorem dX10_repeats_56 : decode cX10_repeats 56 = .ok (.iload 4, 2) := by decide +kernel
theorem dX10_repeats_58 : decode cX10_repeats 58 = .ok (.isub, 1) := by decide +kernel
theorem dX10_repeats_59 : decode cX10_repeats 59 = .ok (.iaload, 1) := by decide +kernel
theorem dX10_repeats_60 : decode cX10_repeats 60 = .ok (.iastore, 1) := by decide +kernel
theorem dX10_repeats_61 : decode cX10_repeats 61 = .ok (.iinc 5 1, 3) := by decide +kernel
theorem dX10_repeats_64 : decode cX10_repeats 64 = .ok (.goto (-33), 3) := by decide +kernel
theorem dX10_repeats_67 : decode cX10_repeats 67 = .ok (.aload_n 0, 1) := by decide +kernel
theorem dX10_repeats_68 : decode cX10_repeats 68 = .ok (.iload_n 1, 1) := by decide +kernel
theorem dX10_repeats_69 : decode cX10_repeats 69 = .ok (.iload 4, 2) := by decide +kernel
theorem dX10_repeats_71 : decode cX10_repeats 71 = .ok (.iload_n 2, 1) := by decide +kernel
theorem dX10_repeats_72 : decode cX10_repeats 72 = .ok (.imul, 1) := by decide +kernel
theorem dX10_repeats_73 : decode cX10_repeats 73 = .ok (.iadd, 1) := by decide +kernel
theorem dX10_repeats_74 : decode cX10_repeats 74 = .ok (.putfield 256, 3) := by decide +kernel
theorem dX10_repeats_77 : decode cX10_repeats 77 = .ok (.iconst 1, 1) := by decide +kernel
theorem dX10_repeats_78 : decode cX10_repeats 78 = .ok (.ireturn, 1) := by decide +kernel
set_option maxRecDepth 20000 in
theorem ggX10_readsStep_X10_readsTimes : GoodIn wsX10_readsStep wsX10_readsTimes := goodIn_r _ [14, 2, 4, 8, 15, 16, 17, 13, 18, 19, 20, 21, 22, 23, 33, 34, 35, 36, 37, 38, 39, 40, 41, 42, 43, 44, 45, 46, 47, 48, 49, 50, 51, 52, 53, 54, 55, 56, 57, 58, 59, 60, 61, 62, 63, 64, 65, 66, 67, 68, 69, 70, 71, 72, 73, 74, 75, 76, 77, 78, 79, 80, 81, 82, 83, 84] (by decide +kernel) (by decide +kernel)
set_option maxRecDepth 20000 in
theorem gX10_readsStep_X10_readsTimes : GoodIn wsX10_readsStep (wsV RX10 259 RX10 yX10_readsTimes wsX10_readsTimes) := goodIn_app (goodIn_of _ (by decide +kernel)) ggX10_readsStep_X10_readsTimes
set_option maxRecDepth 20000 in
theorem ggX10_readsStep_X10_here : GoodIn wsX10_readsStep wsX10_here := goodIn_r _ [18, 2, 19, 20, 33, 34, 35, 36, 37, 38, 39, 40, 41, 42, 43, 44, 45, 46, 47, 48, 49, 50, 51, 52, 53, 54, 55, 56, 57, 58, 59, 60, 61, 62, 63, 64, 65, 66, 67, 68, 69, 70, 71, 72, 73, 74, 75, 76, 77, 78, 79, 80, 81, 82, 83, 84] (by decide +kernel) (by decide +kernel)
set_option maxRecDepth 20000 in
theorem gX10_readsStep_X10_here : GoodIn wsX10_readsStep (wsV RX10 144 RX10 yX10_here wsX10_here) := goodIn_app (goodIn_of _ (by decide +kernel)) ggX10_readsStep_X10_here
set_option maxRecDepth 20000 in
theorem ggX10_readsStep_X10_wrongAt : GoodIn wsX10_readsStep wsX10_wrongAt := goodIn_r _ [27, 28, 33, 34, 35, 36, 37, 38, 39, 40, 41, 42, 43, 44, 45, 46, 47, 48, 49, 50, 51, 52, 53, 54, 55, 56, 57, 58, 59, 60, 61, 62, 63, 64, 65, 66, 67, 68, 69, 70, 71, 72, 73, 74, 75, 76, 77, 78, 79, 80, 81, 82, 83, 84] (by decide +kernel) (by decide +kernel)
set_option maxRecDepth 20000 in
theorem gX10_readsStep_X10_wrongAt : GoodIn wsX10_readsStep (wsV RX10 151 RX10 yX10_wrongAt wsX10_wrongAt) := goodIn_app (goodIn_of _ (by decide +kernel)) ggX10_readsStep_X10_wrongAt
set_option maxRecDepth 20000 in
theorem ggX10_readsStep_X10_in : GoodIn wsX10_readsStep wsX10_in := goodIn_r _ [23] (by decide +kernel) (by decide +kernel)
set_option maxRecDepth 20000 in
theorem gX10_readsStep_X10_in : GoodIn wsX10_readsStep (va_wsS RX10 112 yX10_in wsX10_in) := goodIn_app (goodIn_of _ (by decide +kernel)) ggX10_readsStep_X10_in
set_option maxRecDepth 20000 in
theorem ggX10_readsStep_X10_repeats : GoodIn wsX10_readsStep wsX10_repeats := goodIn_r _ [32, 6, 9, 24, 25, 26, 13, 27, 28, 33, 34, 35, 36, 37, 38, 39, 40, 41, 42, 43, 44, 45, 46, 47, 48, 49, 50, 51, 52, 53, 54, 55, 56, 57, 58, 59, 60, 61, 62, 63, 64, 65, 66, 67, 68, 69, 70, 71, 72, 73, 74, 75, 76, 77, 78, 79, 80, 81, 82, 83, 84] (by decide +kernel) (by decide +kernel)
set_option maxRecDepth 20000 in
theorem gX10_readsStep_X10_repeats : GoodIn wsX10_readsStep (wsV RX10 265 RX10 yX10_repeats wsX10_repeats) := goodIn_app (goodIn_of _ (by decide +kernel)) ggX10_readsStep_X10_repeats
theorem dX10_readsStep_0 : decode cX10_readsStep 0 = .ok (.aload_n 0, 1) := by decide +kernel
theorem dX10_readsStep_1 : decode cX10_readsStep 1 = .ok (.invokevirtual 259, 3) := by decide +kernel
theorem dX10_readsStep_4 : decode cX10_readsStep 4 = .ok (.aload_n 0, 1) := by decide +kernel
theorem dX10_readsStep_5 : decode cX10_readsStep 5 = .ok (.invokevirtual 144, 3) := by decide +kernel
theorem dX10_readsStep_8 : decode cX10_readsStep 8 = .ok (.bipush 40, 2) := by decide +kernel
theorem dX10_readsStep_10 : decode cX10_readsStep 10 = .ok (.if_icmp .ne 87, 3) := by decide +kernel
theorem dX10_readsStep_13 : decode cX10_readsStep 13 = .ok (.aload_n 0, 1) := by decide +kernel
theorem dX10_readsStep_14 : decode cX10_readsStep 14 = .ok (.getfield 262, 3) := by decide +kernel
theorem dX10_readsStep_17 : decode cX10_readsStep 17 = .ok (.iconst 2, 1) := by decide +kernel
theorem dX10_readsStep_18 : decode cX10_readsStep 18 = .ok (.if_icmp .ne 13, 3) := by decide +kernel
theorem dX10_readsStep_21 : decode cX10_readsStep 21 = .ok (.aload_n 0, 1) := by decide +kernel
theorem dX10_readsStep_22 : decode cX10_readsStep 22 = .ok (.iconst 5, 1) := by decide +kernel
theorem dX10_readsStep_23 : decode cX10_readsStep 23 = .ok (.aload_n 0, 1) := by decide +kernel
theorem dX10_readsStep_24 : decode cX10_readsStep 24 = .ok (.getfield 138, 3) := by decide +kernel
theorem dX10_readsStep_27 : decode cX10_readsStep 27 = .ok (.invokevirtual 151, 3) := by decide +kernel
theorem dX10_readsStep_30 : decode cX10_readsStep 30 = .ok (.ireturn, 1) := by decide +kernel
theorem dX10_readsStep_31 : decode cX10_readsStep 31 = .ok (.aload_n 0, 1) := by decide +kernel
theorem dX10_readsStep_32 : decode cX10_readsStep 32 = .ok (.getfield 74, 3) := by decide +kernel
theorem dX10_readsStep_35 : decode cX10_readsStep 35 = .ok (.aload_n 0, 1) := by decide +kernel
theorem dX10_readsStep_36 : decode cX10_readsStep 36 = .ok (.getfield 262, 3) := by decide +kernel
theorem dX10_readsStep_39 : decode cX10_readsStep 39 = .ok (.aload_n 0, 1) := by decide +kernel
theorem dX10_readsStep_40 : decode cX10_readsStep 40 = .ok (.getfield 250, 3) := by decide +kernel
theorem dX10_readsStep_43 : decode cX10_readsStep 43 = .ok (.iastore, 1) := by decide +kernel
theorem dX10_readsStep_44 : decode cX10_readsStep 44 = .ok (.aload_n 0, 1) := by decide +kernel
theorem dX10_readsStep_45 : decode cX10_readsStep 45 = .ok (.getfield 77, 3) := by decide +kernel
theorem dX10_readsStep_48 : decode cX10_readsStep 48 = .ok (.aload_n 0, 1) := by decide +kernel
theorem dX10_readsStep_49 : decode cX10_readsStep 49 = .ok (.getfield 262, 3) := by decide +kernel
theorem dX10_readsStep_52 : decode cX10_readsStep 52 = .ok (.aload_n 0, 1) := by decide +kernel
theorem dX10_readsStep_53 : decode cX10_readsStep 53 = .ok (.getfield 256, 3) := by decide +kernel
theorem dX10_readsStep_56 : decode cX10_readsStep 56 = .ok (.iastore, 1) := by decide +kernel
theorem dX10_readsStep_57 : decode cX10_readsStep 57 = .ok (.aload_n 0, 1) := by decide +kernel
theorem dX10_readsStep_58 : decode cX10_readsStep 58 = .ok (.getfield 80, 3) := by decide +kernel
theorem dX10_readsStep_61 : decode cX10_readsStep 61 = .ok (.aload_n 0, 1) := by decide +kernel
theorem dX10_readsStep_62 : decode cX10_readsStep 62 = .ok (.getfield 262, 3) := by decide +kernel
theorem dX10_readsStep_65 : decode cX10_readsStep 65 = .ok (.aload_n 0, 1) := by decide +kernel
theorem dX10_readsStep_66 : decode cX10_readsStep 66 = .ok (.getfield 253, 3) := by decide +kernel
theorem dX10_readsStep_69 : decode cX10_readsStep 69 = .ok (.iastore, 1) := by decide +kernel
theorem dX10_readsStep_70 : decode cX10_readsStep 70 = .ok (.aload_n 0, 1) := by decide +kernel
theorem dX10_readsStep_71 : decode cX10_readsStep 71 = .ok (.aload_n 0, 1) := by decide +kernel
theorem dX10_readsStep_72 : decode cX10_readsStep 72 = .ok (.getfield 262, 3) := by decide +kernel
theorem dX10_readsStep_75 : decode cX10_readsStep 75 = .ok (.iconst 1, 1) := by decide +kernel
theorem dX10_readsStep_76 : decode cX10_readsStep 76 = .ok (.iadd, 1) := by decide +kernel
theorem dX10_readsStep_77 : decode cX10_readsStep 77 = .ok (.putfield 262, 3) := by decide +kernel
theorem dX10_readsStep_80 : decode cX10_readsStep 80 = .ok (.aload_n 0, 1) := by decide +kernel
theorem dX10_readsStep_81 : decode cX10_readsStep 81 = .ok (.aload_n 0, 1) := by decide +kernel
theorem dX10_readsStep_82 : decode cX10_readsStep 82 = .ok (.getfield 138, 3) := by decide +kernel
theorem dX10_readsStep_85 : decode cX10_readsStep 85 = .ok (.iconst 1, 1) := by decide +kernel
theorem dX10_readsStep_86 : decode cX10_readsStep 86 = .ok (.iadd, 1) := by decide +kernel
theorem dX10_readsStep_87 : decode cX10_readsStep 87 = .ok (.putfield 138, 3) := by decide +kernel
theorem dX10_readsStep_90 : decode cX10_readsStep 90 = .ok (.aload_n 0, 1) := by decide +kernel
theorem dX10_readsStep_91 : decode cX10_readsStep 91 = .ok (.invokevirtual 259, 3) := by decide +kernel
theorem dX10_readsStep_94 : decode cX10_readsStep 94 = .ok (.goto (-90), 3) := by decide +kernel
theorem dX10_readsStep_97 : decode cX10_readsStep 97 = .ok (.aload_n 0, 1) := by decide +kernel
theorem dX10_readsStep_98 : decode cX10_readsStep 98 = .ok (.getfield 250, 3) := by decide +kernel
theorem dX10_readsStep_101 : decode cX10_readsStep 101 = .ok (.istore_n 1, 1) := by decide +kernel
theorem dX10_readsStep_102 : decode cX10_readsStep 102 = .ok (.aload_n 0, 1) := by decide +kernel
theorem dX10_readsStep_103 : decode cX10_readsStep 103 = .ok (.getfield 253, 3) := by decide +kernel
theorem dX10_readsStep_106 : decode cX10_readsStep 106 = .ok (.istore_n 2, 1) := by decide +kernel
theorem dX10_readsStep_107 : decode cX10_readsStep 107 = .ok (.aload_n 0, 1) := by decide +kernel
theorem dX10_readsStep_108 : decode cX10_readsStep 108 = .ok (.invokevirtual 144, 3) := by decide +kernel
theorem dX10_readsStep_111 : decode cX10_readsStep 111 = .ok (.istore_n 3, 1) := by decide +kernel
theorem dX10_readsStep_112 : decode cX10_readsStep 112 = .ok (.iload_n 3, 1) := by decide +kernel
theorem dX10_readsStep_113 : decode cX10_readsStep 113 = .ok (.bipush 46, 2) := by decide +kernel
theorem dX10_readsStep_115 : decode cX10_readsStep 115 = .ok (.if_icmp .eq 24, 3) := by decide +kernel
theorem dX10_readsStep_118 : decode cX10_readsStep 118 = .ok (.iload_n 3, 1) := by decide +kernel
theorem dX10_readsStep_119 : decode cX10_readsStep 119 = .ok (.bipush 97, 2) := by decide +kernel
theorem dX10_readsStep_121 : decode cX10_readsStep 121 = .ok (.bipush 112, 2) := by decide +kernel
theorem dX10_readsStep_123 : decode cX10_readsStep 123 = .ok (.invokestatic 112, 3) := by decide +kernel
theorem dX10_readsStep_126 : decode cX10_readsStep 126 = .ok (.ifCond .ne 13, 3) := by decide +kernel
theorem dX10_readsStep_129 : decode cX10_readsStep 129 = .ok (.aload_n 0, 1) := by decide +kernel
theorem dX10_readsStep_130 : decode cX10_readsStep 130 = .ok (.iconst 1, 1) := by decide +kernel
theorem dX10_readsStep_131 : decode cX10_readsStep 131 = .ok (.aload_n 0, 1) := by decide +kernel
theorem dX10_readsStep_132 : decode cX10_readsStep 132 = .ok (.getfield 138, 3) := by decide +kernel
theorem dX10_readsStep_135 : decode cX10_readsStep 135 = .ok (.invokevirtual 151, 3) := by decide +kernel
theorem dX10_readsStep_138 : decode cX10_readsStep 138 = .ok (.ireturn, 1) := by decide +kernel
theorem dX10_readsStep_139 : decode cX10_readsStep 139 = .ok (.aload_n 0, 1) := by decide +kernel
theorem dX10_readsStep_140 : decode cX10_readsStep 140 = .ok (.getfield 256, 3) := by decide +kernel
theorem dX10_readsStep_143 : decode cX10_readsStep 143 = .ok (.iload_n 2, 1) := by decide +kernel
theorem dX10_readsStep_144 : decode cX10_readsStep 144 = .ok (.iadd, 1) := by decide +kernel
theorem dX10_readsStep_145 : decode cX10_readsStep 145 = .ok (.bipush 48, 2) := by decide +kernel
theorem dX10_readsStep_147 : decode cX10_readsStep 147 = .ok (.if_icmp .le 11, 3) := by decide +kernel
theorem dX10_readsStep_150 : decode cX10_readsStep 150 = .ok (.aload_n 0, 1) := by decide +kernel
theorem dX10_readsStep_151 : decode cX10_readsStep 151 = .ok (.bipush 6, 2) := by decide +kernel
theorem dX10_readsStep_153 : decode cX10_readsStep 153 = .ok (.iload_n 1, 1) := by decide +kernel
theorem dX10_readsStep_154 : decode cX10_readsStep 154 = .ok (.invokevirtual 151, 3) := by decide +kernel
theorem dX10_readsStep_157 : decode cX10_readsStep 157 = .ok (.ireturn, 1) := by decide +kernel
theorem dX10_readsStep_158 : decode cX10_readsStep 158 = .ok (.aload_n 0, 1) := by decide +kernel
theorem dX10_readsStep_159 : decode cX10_readsStep 159 = .ok (.aload_n 0, 1) := by decide +kernel
theorem dX10_readsStep_160 : decode cX10_readsStep 160 = .ok (.getfield 138, 3) := by decide +kernel
theorem dX10_readsStep_163 : decode cX10_readsStep 163 = .ok (.iconst 1, 1) := by decide +kernel
theorem dX10_readsStep_164 : decode cX10_readsStep 164 = .ok (.iadd, 1) := by decide +kernel
theorem dX10_readsStep_165 : decode cX10_readsStep 165 = .ok (.putfield 138, 3) := by decide +kernel
theorem dX10_readsStep_168 : decode cX10_readsStep 168 = .ok (.aload_n 0, 1) := by decide +kernel
theorem dX10_readsStep_169 : decode cX10_readsStep 169 = .ok (.getfield 71, 3) := by decide +kernel
theorem dX10_readsStep_172 : decode cX10_readsStep 172 = .ok (.aload_n 0, 1) := by decide +kernel
theorem dX10_readsStep_173 : decode cX10_readsStep 173 = .ok (.getfield 256, 3) := by decide +kernel
theorem dX10_readsStep_176 : decode cX10_readsStep 176 = .ok (.iload_n 3, 1) := by decide +kernel
theorem dX10_readsStep_177 : decode cX10_readsStep 177 = .ok (.bipush 46, 2) := by decide +kernel
theorem dX10_readsStep_179 : decode cX10_readsStep 179 = .ok (.if_icmp .ne 7, 3) := by decide +kernel
theorem dX10_readsStep_182 : decode cX10_readsStep 182 = .ok (.iconst (-1), 1) := by decide +kernel
theorem dX10_readsStep_183 : decode cX10_readsStep 183 = .ok (.goto 7, 3) := by decide +kernel
theorem dX10_readsStep_186 : decode cX10_readsStep 186 = .ok (.iload_n 3, 1) := by decide +kernel
theorem dX10_readsStep_187 : decode cX10_readsStep 187 = .ok (.bipush 97, 2) := by decide +kernel
theorem dX10_readsStep_189 : decode cX10_readsStep 189 = .ok (.isub, 1) := by decide +kernel
theorem dX10_readsStep_190 : decode cX10_readsStep 190 = .ok (.iastore, 1) := by decide +kernel
theorem dX10_readsStep_191 : decode cX10_readsStep 191 = .ok (.aload_n 0, 1) := by decide +kernel
theorem dX10_readsStep_192 : decode cX10_readsStep 192 = .ok (.aload_n 0, 1) := by decide +kernel
theorem dX10_readsStep_193 : decode cX10_readsStep 193 = .ok (.getfield 256, 3) := by decide +kernel
theorem dX10_readsStep_196 : decode cX10_readsStep 196 = .ok (.iconst 1, 1) := by decide +kernel
theorem dX10_readsStep_197 : decode cX10_readsStep 197 = .ok (.iadd, 1) := by decide +kernel
theorem dX10_readsStep_198 : decode cX10_readsStep 198 = .ok (.putfield 256, 3) := by decide +kernel
theorem dX10_readsStep_201 : decode cX10_readsStep 201 = .ok (.aload_n 0, 1) := by decide +kernel
theorem dX10_readsStep_202 : decode cX10_readsStep 202 = .ok (.aload_n 0, 1) := by decide +kernel
theorem dX10_readsStep_203 : decode cX10_readsStep 203 = .ok (.getfield 256, 3) := by decide +kernel
theorem dX10_readsStep_206 : decode cX10_readsStep 206 = .ok (.iconst 1, 1) := by decide +kernel
theorem dX10_readsStep_207 : decode cX10_readsStep 207 = .ok (.isub, 1) := by decide +kernel
theorem dX10_readsStep_208 : decode cX10_readsStep 208 = .ok (.iload_n 2, 1) := by decide +kernel
theorem dX10_readsStep_209 : decode cX10_readsStep 209 = .ok (.iload_n 1, 1) := by decide +kernel
theorem dX10_readsStep_210 : decode cX10_readsStep 210 = .ok (.invokevirtual 265, 3) := by decide +kernel
theorem dX10_readsStep_213 : decode cX10_readsStep 213 = .ok (.ifCond .ne 5, 3) := by decide +kernel
theorem dX10_readsStep_216 : decode cX10_readsStep 216 = .ok (.iconst 0, 1) := by decide +kernel
theorem dX10_readsStep_217 : decode cX10_readsStep 217 = .ok (.ireturn, 1) := by decide +kernel
theorem dX10_readsStep_218 : decode cX10_readsStep 218 = .ok (.aload_n 0, 1) := by decide +kernel
theorem dX10_readsStep_219 : decode cX10_readsStep 219 = .ok (.invokevirtual 144, 3) := by decide +kernel
theorem dX10_readsStep_222 : decode cX10_readsStep 222 = .ok (.bipush 41, 2) := by decide +kernel
theorem dX10_readsStep_224 : decode cX10_readsStep 224 = .ok (.if_icmp .ne 66, 3) := by decide +kernel
theorem dX10_readsStep_227 : decode cX10_readsStep 227 = .ok (.aload_n 0, 1) := by decide +kernel
theorem dX10_readsStep_228 : decode cX10_readsStep 228 = .ok (.getfield 262, 3) := by decide +kernel
theorem dX10_readsStep_231 : decode cX10_readsStep 231 = .ok (.ifCond .le 59, 3) := by decide +kernel
theorem dX10_readsStep_234 : decode cX10_readsStep 234 = .ok (.aload_n 0, 1) := by decide +kernel
theorem dX10_readsStep_235 : decode cX10_readsStep 235 = .ok (.aload_n 0, 1) := by decide +kernel
theorem dX10_readsStep_236 : decode cX10_readsStep 236 = .ok (.getfield 138, 3) := by decide +kernel
theorem dX10_readsStep_239 : decode cX10_readsStep 239 = .ok (.iconst 1, 1) := by decide +kernel
theorem dX10_readsStep_240 : decode cX10_readsStep 240 = .ok (.iadd, 1) := by decide +kernel
theorem dX10_readsStep_241 : decode cX10_readsStep 241 = .ok (.putfield 138, 3) := by decide +kernel
theorem dX10_readsStep_244 : decode cX10_readsStep 244 = .ok (.aload_n 0, 1) := by decide +kernel
theorem dX10_readsStep_245 : decode cX10_readsStep 245 = .ok (.aload_n 0, 1) := by decide +kernel
theorem dX10_readsStep_246 : decode cX10_readsStep 246 = .ok (.getfield 262, 3) := by decide +kernel
theorem dX10_readsStep_249 : decode cX10_readsStep 249 = .ok (.iconst 1, 1) := by decide +kernel
theorem dX10_readsStep_250 : decode cX10_readsStep 250 = .ok (.isub, 1) := by decide +kernel
theorem dX10_readsStep_251 : decode cX10_readsStep 251 = .ok (.putfield 262, 3) := by decide +kernel
theorem dX10_readsStep_254 : decode cX10_readsStep 254 = .ok (.aload_n 0, 1) := by decide +kernel
theorem dX10_readsStep_255 : decode cX10_readsStep 255 = .ok (.aload_n 0, 1) := by decide +kernel
theorem dX10_readsStep_256 : decode cX10_readsStep 256 = .ok (.getfield 77, 3) := by decide +kernel
theorem dX10_readsStep_259 : decode cX10_readsStep 259 = .ok (.aload_n 0, 1) := by decide +kernel
theorem dX10_readsStep_260 : decode cX10_readsStep 260 = .ok (.getfield 262, 3) := by decide +kernel
theorem dX10_readsStep_263 : decode cX10_readsStep 263 = .ok (.iaload, 1) := by decide +kernel
theorem dX10_readsStep_264 : decode cX10_readsStep 264 = .ok (.aload_n 0, 1) := by decide +kernel
theorem dX10_readsStep_265 : decode cX10_readsStep 265 = .ok (.getfield 80, 3) := by decide +kernel
theorem dX10_readsStep_268 : decode cX10_readsStep 268 = .ok (.aload_n 0, 1) := by decide +kernel
theorem dX10_readsStep_269 : decode cX10_readsStep 269 = .ok (.getfield 262, 3) := by decide +kernel
theorem dX10_readsStep_272 : decode cX10_readsStep 272 = .ok (.iaload, 1) := by decide +kernel
theorem dX10_readsStep_273 : decode cX10_readsStep 273 = .ok (.aload_n 0, 1) := by decide +kernel
theorem dX10_readsStep_274 : decode cX10_readsStep 274 = .ok (.getfield 74, 3) := by decide +kernel
theorem dX10_readsStep_277 : decode cX10_readsStep 277 = .ok (.aload_n 0, 1) := by decide +kernel
theorem dX10_readsStep_278 : decode cX10_readsStep 278 = .ok (.getfield 262, 3) := by decide +kernel
theorem dX10_readsStep_281 : decode cX10_readsStep 281 = .ok (.iaload, 1) := by decide +kernel
theorem dX10_readsStep_282 : decode cX10_readsStep 282 = .ok (.invokevirtual 265, 3) := by decide +kernel
theorem dX10_readsStep_285 : decode cX10_readsStep 285 = .ok (.ifCond .ne (-67), 3) := by decide +kernel
theorem dX10_readsStep_288 : decode cX10_readsStep 288 = .ok (.iconst 0, 1) := by decide +kernel
theorem dX10_readsStep_289 : decode cX10_readsStep 289 = .ok (.ireturn, 1) := by decide +kernel
theorem dX10_readsStep_290 : decode cX10_readsStep 290 = .ok (.iconst 1, 1) := by decide +kernel
theorem dX10_readsStep_291 : decode cX10_readsStep 291 = .ok (.ireturn, 1) := by decide +kernel
set_option maxRecDepth 20000 in
theorem ggX10_beat_X10_in : GoodIn wsX10_beat wsX10_in := goodIn_r _ [13] (by decide +kernel) (by decide +kernel)
set_option maxRecDepth 20000 in
theorem gX10_beat_X10_in : GoodIn wsX10_beat (va_wsS RX10 112 yX10_in wsX10_in) := goodIn_app (goodIn_of _ (by decide +kernel)) ggX10_beat_X10_in
set_option maxRecDepth 20000 in
theorem ggX10_beat_X10_beginsText : GoodIn wsX10_beat wsX10_beginsText := goodIn_r _ [17, 4, 5, 18, 19, 46, 47, 48, 49, 50, 51, 52, 53, 54, 55, 56, 57, 58, 59, 60, 61, 62, 63, 64, 65, 66, 67, 68, 69, 70, 71, 72, 73, 74, 75, 76, 77, 78, 79, 80, 81, 82, 83, 84, 85, 86, 87, 88, 89, 90, 91, 92, 93, 94, 95, 96, 97] (by decide +kernel) (by decide +kernel)
set_option maxRecDepth 20000 in
theorem gX10_beat_X10_beginsText : GoodIn wsX10_beat (wsV RX10 221 RX10 yX10_beginsText wsX10_beginsText) := goodIn_app (goodIn_of _ (by decide +kernel)) ggX10_beat_X10_beginsText
set_option maxRecDepth 20000 in
theorem ggX10_beat_X10_readsStep : GoodIn wsX10_beat wsX10_readsStep := goodIn_r _ [23, 3, 4, 24, 25, 26, 2, 27, 28, 9, 29, 30, 31, 12, 32, 33, 34, 35, 36, 5, 37, 10, 11, 13, 38, 39, 40, 41, 6, 42, 43, 44, 45, 46, 47, 48, 49, 50, 51, 52, 53, 54, 55, 56, 57, 58, 59, 60, 61, 62, 63, 64, 65, 66, 67, 68, 69, 70, 71, 72, 73, 74, 75, 76, 77, 78, 79, 80, 81, 82, 83, 84, 85, 86, 87, 88, 89, 90, 91, 92, 93, 94, 95, 96, 97] (by decide +kernel) (by decide +kernel)
set_option maxRecDepth 20000 in
theorem gX10_beat_X10_readsStep : GoodIn wsX10_beat (wsV RX10 268 RX10 yX10_readsStep wsX10_readsStep) := goodIn_app (goodIn_of _ (by decide +kernel)) ggX10_beat_X10_readsStep
theorem dX10_beat_0 : decode cX10_beat 0 = .ok (.iload_n 1, 1) := by decide +kernel
theorem dX10_beat_1 : decode cX10_beat 1 = .ok (.iconst 0, 1) := by decide +kernel
theorem dX10_beat_2 : decode cX10_beat 2 = .ok (.bipush 7, 2) := by decide +kernel
theorem dX10_beat_4 : decode cX10_beat 4 = .ok (.invokestatic 112, 3) := by decide +kernel
theorem dX10_beat_7 : decode cX10_beat 7 = .ok (.ifCond .eq 21, 3) := by decide +kernel
theorem dX10_beat_10 : decode cX10_beat 10 = .ok (.iload_n 2, 1) := by decide +kernel
theorem dX10_beat_11 : decode cX10_beat 11 = .ok (.iconst 1, 1) := by decide +kernel
theorem dX10_beat_12 : decode cX10_beat 12 = .ok (.bipush 60, 2) := by decide +kernel
theorem dX10_beat_14 : decode cX10_beat 14 = .ok (.invokestatic 112, 3) := by decide +kernel
theorem dX10_beat_17 : decode cX10_beat 17 = .ok (.ifCond .eq 11, 3) := by decide +kernel
theorem dX10_beat_20 : decode cX10_beat 20 = .ok (.iload_n 2, 1) := by decide +kernel
theorem dX10_beat_21 : decode cX10_beat 21 = .ok (.aload_n 0, 1) := by decide +kernel
theorem dX10_beat_22 : decode cX10_beat 22 = .ok (.getfield 131, 3) := by decide +kernel
theorem dX10_beat_25 : decode cX10_beat 25 = .ok (.if_icmp .le 5, 3) := by decide +kernel
theorem dX10_beat_28 : decode cX10_beat 28 = .ok (.iconst (-1), 1) := by decide +kernel
theorem dX10_beat_29 : decode cX10_beat 29 = .ok (.ireturn, 1) := by decide +kernel
theorem dX10_beat_30 : decode cX10_beat 30 = .ok (.aload_n 0, 1) := by decide +kernel
theorem dX10_beat_31 : decode cX10_beat 31 = .ok (.iload_n 2, 1) := by decide +kernel
theorem dX10_beat_32 : decode cX10_beat 32 = .ok (.invokevirtual 221, 3) := by decide +kernel
theorem dX10_beat_35 : decode cX10_beat 35 = .ok (.aload_n 0, 1) := by decide +kernel
theorem dX10_beat_36 : decode cX10_beat 36 = .ok (.iconst 0, 1) := by decide +kernel
theorem dX10_beat_37 : decode cX10_beat 37 = .ok (.putfield 256, 3) := by decide +kernel
theorem dX10_beat_40 : decode cX10_beat 40 = .ok (.aload_n 0, 1) := by decide +kernel
theorem dX10_beat_41 : decode cX10_beat 41 = .ok (.iconst 0, 1) := by decide +kernel
theorem dX10_beat_42 : decode cX10_beat 42 = .ok (.putfield 262, 3) := by decide +kernel
theorem dX10_beat_45 : decode cX10_beat 45 = .ok (.aload_n 0, 1) := by decide +kernel
theorem dX10_beat_46 : decode cX10_beat 46 = .ok (.invokevirtual 268, 3) := by decide +kernel
theorem dX10_beat_49 : decode cX10_beat 49 = .ok (.istore_n 3, 1) := by decide +kernel
theorem dX10_beat_50 : decode cX10_beat 50 = .ok (.iload_n 3, 1) := by decide +kernel
theorem dX10_beat_51 : decode cX10_beat 51 = .ok (.ifCond .eq 29, 3) := by decide +kernel
theorem dX10_beat_54 : decode cX10_beat 54 = .ok (.aload_n 0, 1) := by decide +kernel
theorem dX10_beat_55 : decode cX10_beat 55 = .ok (.getfield 138, 3) := by decide +kernel
theorem dX10_beat_58 : decode cX10_beat 58 = .ok (.aload_n 0, 1) := by decide +kernel
theorem dX10_beat_59 : decode cX10_beat 59 = .ok (.getfield 141, 3) := by decide +kernel
theorem dX10_beat_62 : decode cX10_beat 62 = .ok (.if_icmp .lt 10, 3) := by decide +kernel
theorem dX10_beat_65 : decode cX10_beat 65 = .ok (.aload_n 0, 1) := by decide +kernel
theorem dX10_beat_66 : decode cX10_beat 66 = .ok (.getfield 262, 3) := by decide +kernel
theorem dX10_beat_69 : decode cX10_beat 69 = .ok (.ifCond .le 11, 3) := by decide +kernel
theorem dX10_beat_72 : decode cX10_beat 72 = .ok (.aload_n 0, 1) := by decide +kernel
theorem dX10_beat_73 : decode cX10_beat 73 = .ok (.invokevirtual 268, 3) := by decide +kernel
theorem dX10_beat_76 : decode cX10_beat 76 = .ok (.istore_n 3, 1) := by decide +kernel
theorem dX10_beat_77 : decode cX10_beat 77 = .ok (.goto (-27), 3) := by decide +kernel
theorem dX10_beat_80 : decode cX10_beat 80 = .ok (.aload_n 0, 1) := by decide +kernel
theorem dX10_beat_81 : decode cX10_beat 81 = .ok (.iconst 0, 1) := by decide +kernel
theorem dX10_beat_82 : decode cX10_beat 82 = .ok (.putfield 131, 3) := by decide +kernel
theorem dX10_beat_85 : decode cX10_beat 85 = .ok (.iload_n 3, 1) := by decide +kernel
theorem dX10_beat_86 : decode cX10_beat 86 = .ok (.ifCond .ne 8, 3) := by decide +kernel
theorem dX10_beat_89 : decode cX10_beat 89 = .ok (.aload_n 0, 1) := by decide +kernel
theorem dX10_beat_90 : decode cX10_beat 90 = .ok (.getfield 148, 3) := by decide +kernel
theorem dX10_beat_93 : decode cX10_beat 93 = .ok (.ireturn, 1) := by decide +kernel
theorem dX10_beat_94 : decode cX10_beat 94 = .ok (.aload_n 0, 1) := by decide +kernel
theorem dX10_beat_95 : decode cX10_beat 95 = .ok (.getfield 22, 3) := by decide +kernel
theorem dX10_beat_98 : decode cX10_beat 98 = .ok (.iload_n 1, 1) := by decide +kernel
theorem dX10_beat_99 : decode cX10_beat 99 = .ok (.aload_n 0, 1) := by decide +kernel
theorem dX10_beat_100 : decode cX10_beat 100 = .ok (.getfield 256, 3) := by decide +kernel
theorem dX10_beat_103 : decode cX10_beat 103 = .ok (.iastore, 1) := by decide +kernel
theorem dX10_beat_104 : decode cX10_beat 104 = .ok (.iconst 0, 1) := by decide +kernel
theorem dX10_beat_105 : decode cX10_beat 105 = .ok (.istore 4, 2) := by decide +kernel
theorem dX10_beat_107 : decode cX10_beat 107 = .ok (.iload 4, 2) := by decide +kernel
theorem dX10_beat_109 : decode cX10_beat 109 = .ok (.aload_n 0, 1) := by decide +kernel
theorem dX10_beat_110 : decode cX10_beat 110 = .ok (.getfield 256, 3) := by decide +kernel
theorem dX10_beat_113 : decode cX10_beat 113 = .ok (.if_icmp .ge 28, 3) := by decide +kernel
theorem dX10_beat_116 : decode cX10_beat 116 = .ok (.aload_n 0, 1) := by decide +kernel
theorem dX10_beat_117 : decode cX10_beat 117 = .ok (.getfield 25, 3) := by decide +kernel
theorem dX10_beat_120 : decode cX10_beat 120 = .ok (.bipush 48, 2) := by decide +kernel
theorem dX10_beat_122 : decode cX10_beat 122 = .ok (.iload_n 1, 1) := by decide +kernel
theorem dX10_beat_123 : decode cX10_beat 123 = .ok (.imul, 1) := by decide +kernel
theorem dX10_beat_124 : decode cX10_beat 124 = .ok (.iload 4, 2) := by decide +kernel
theorem dX10_beat_126 : decode cX10_beat 126 = .ok (.iadd, 1) := by decide +kernel
theorem dX10_beat_127 : decode cX10_beat 127 = .ok (.aload_n 0, 1) := by decide +kernel
theorem dX10_beat_128 : decode cX10_beat 128 = .ok (.getfield 71, 3) := by decide +kernel
theorem dX10_beat_131 : decode cX10_beat 131 = .ok (.iload 4, 2) := by decide +kernel
theorem dX10_beat_133 : decode cX10_beat 133 = .ok (.iaload, 1) := by decide +kernel
theorem dX10_beat_134 : decode cX10_beat 134 = .ok (.iastore, 1) := by decide +kernel
theorem dX10_beat_135 : decode cX10_beat 135 = .ok (.iinc 4 1, 3) := by decide +kernel
theorem dX10_beat_138 : decode cX10_beat 138 = .ok (.goto (-31), 3) := by decide +kernel
theorem dX10_beat_141 : decode cX10_beat 141 = .ok (.aload_n 0, 1) := by decide +kernel
theorem dX10_beat_142 : decode cX10_beat 142 = .ok (.getfield 256, 3) := by decide +kernel
theorem dX10_beat_145 : decode cX10_beat 145 = .ok (.ireturn, 1) := by decide +kernel
set_option maxRecDepth 20000 in
theorem ggX10_isLetter_X10_here : GoodIn wsX10_isLetter wsX10_here := goodIn_r _ [5, 6, 7, 8, 12, 13, 14, 15, 16, 17, 18, 19, 20, 21, 22, 23, 24, 25, 26, 27, 28, 29, 30, 31, 32, 33, 34, 35, 36, 37, 38, 39, 40, 41, 42, 43, 44, 45, 46, 47, 48, 49, 50, 51, 52, 53, 54, 55, 56, 57, 58, 59, 60, 61, 62, 63] (by decide +kernel) (by decide +kernel)
set_option maxRecDepth 20000 in
theorem gX10_isLetter_X10_here : GoodIn wsX10_isLetter (wsV RX10 144 RX10 yX10_here wsX10_here) := goodIn_app (goodIn_of _ (by decide +kernel)) ggX10_isLetter_X10_here
set_option maxRecDepth 20000 in
theorem ggX10_isLetter_X10_in : GoodIn wsX10_isLetter wsX10_in := goodIn_r _ [11] (by decide +kernel) (by decide +kernel)
set_option maxRecDepth 20000 in
theorem gX10_isLetter_X10_in : GoodIn wsX10_isLetter (va_wsS RX10 112 yX10_in wsX10_in) := goodIn_app (goodIn_of _ (by decide +kernel)) ggX10_isLetter_X10_in
theorem dX10_isLetter_0 : decode cX10_isLetter 0 = .ok (.aload_n 0, 1) := by decide +kernel
theorem dX10_isLetter_1 : decode cX10_isLetter 1 = .ok (.invokevirtual 144, 3) := by decide +kernel
theorem dX10_isLetter_4 : decode cX10_isLetter 4 = .ok (.bipush 97, 2) := by decide +kernel
theorem dX10_isLetter_6 : decode cX10_isLetter 6 = .ok (.isub, 1) := by decide +kernel
theorem dX10_isLetter_7 : decode cX10_isLetter 7 = .ok (.iconst 0, 1) := by decide +kernel
theorem dX10_isLetter_8 : decode cX10_isLetter 8 = .ok (.bipush 15, 2) := by decide +kernel
theorem dX10_isLetter_10 : decode cX10_isLetter 10 = .ok (.invokestatic 112, 3) := by decide +kernel
theorem dX10_isLetter_13 : decode cX10_isLetter 13 = .ok (.ireturn, 1) := by decide +kernel
set_option maxRecDepth 20000 in
theorem ggX10_readsAmount_X10_isDigit : GoodIn wsX10_readsAmount wsX10_isDigit := goodIn_r _ [7, 8, 9, 10, 6, 11, 1, 12, 13, 19, 20, 21, 22, 23, 24, 25, 26, 27, 28, 29, 30, 31, 32, 33, 34, 35, 36, 37, 38, 39, 40, 41, 42, 43, 44, 45, 46, 47, 48, 49, 50, 51, 52, 53, 54, 55, 56, 57, 58, 59, 60, 61, 62, 63, 64, 65, 66, 67, 68, 69, 70] (by decide +kernel) (by decide +kernel)
set_option maxRecDepth 20000 in
theorem gX10_readsAmount_X10_isDigit : GoodIn wsX10_readsAmount (wsV RX10 157 RX10 yX10_isDigit wsX10_isDigit) := goodIn_app (goodIn_of _ (by decide +kernel)) ggX10_readsAmount_X10_isDigit
set_option maxRecDepth 20000 in
theorem ggX10_readsAmount_X10_wrongAt : GoodIn wsX10_readsAmount wsX10_wrongAt := goodIn_r _ [17, 18, 19, 20, 21, 22, 23, 24, 25, 26, 27, 28, 29, 30, 31, 32, 33, 34, 35, 36, 37, 38, 39, 40, 41, 42, 43, 44, 45, 46, 47, 48, 49, 50, 51, 52, 53, 54, 55, 56, 57, 58, 59, 60, 61, 62, 63, 64, 65, 66, 67, 68, 69, 70] (by decide +kernel) (by decide +kernel)
set_option maxRecDepth 20000 in
theorem gX10_readsAmount_X10_wrongAt : GoodIn wsX10_readsAmount (wsV RX10 151 RX10 yX10_wrongAt wsX10_wrongAt) := goodIn_app (goodIn_of _ (by decide +kernel)) ggX10_readsAmount_X10_wrongAt
set_option maxRecDepth 20000 in
theorem ggX10_readsAmount_X10_here : GoodIn wsX10_readsAmount wsX10_here := goodIn_r _ [11, 1, 12, 13, 19, 20, 21, 22, 23, 24, 25, 26, 27, 28, 29, 30, 31, 32, 33, 34, 35, 36, 37, 38, 39, 40, 41, 42, 43, 44, 45, 46, 47, 48, 49, 50, 51, 52, 53, 54, 55, 56, 57, 58, 59, 60, 61, 62, 63, 64, 65, 66, 67, 68, 69, 70] (by decide +kernel) (by decide +kernel)
set_option maxRecDepth 20000 in
theorem gX10_readsAmount_X10_here : GoodIn wsX10_readsAmount (wsV RX10 144 RX10 yX10_here wsX10_here) := goodIn_app (goodIn_of _ (by decide +kernel)) ggX10_readsAmount_X10_here
theorem dX10_readsAmount_0 : decode cX10_readsAmount 0 = .ok (.aload_n 0, 1) := by decide +kernel
theorem dX10_readsAmount_1 : decode cX10_readsAmount 1 = .ok (.getfield 138, 3) := by decide +kernel
theorem dX10_readsAmount_4 : decode cX10_readsAmount 4 = .ok (.istore_n 2, 1) := by decide +kernel
theorem dX10_readsAmount_5 : decode cX10_readsAmount 5 = .ok (.aload_n 0, 1) := by decide +kernel
theorem dX10_readsAmount_6 : decode cX10_readsAmount 6 = .ok (.invokevirtual 157, 3) := by decide +kernel
theorem dX10_readsAmount_9 : decode cX10_readsAmount 9 = .ok (.ifCond .ne 13, 3) := by decide +kernel
theorem dX10_readsAmount_12 : decode cX10_readsAmount 12 = .ok (.aload_n 0, 1) := by decide +kernel
theorem dX10_readsAmount_13 : decode cX10_readsAmount 13 = .ok (.iconst 1, 1) := by decide +kernel
theorem dX10_readsAmount_14 : decode cX10_readsAmount 14 = .ok (.aload_n 0, 1) := by decide +kernel
theorem dX10_readsAmount_15 : decode cX10_readsAmount 15 = .ok (.getfield 138, 3) := by decide +kernel
theorem dX10_readsAmount_18 : decode cX10_readsAmount 18 = .ok (.invokevirtual 151, 3) := by decide +kernel
theorem dX10_readsAmount_21 : decode cX10_readsAmount 21 = .ok (.ireturn, 1) := by decide +kernel
theorem dX10_readsAmount_22 : decode cX10_readsAmount 22 = .ok (.aload_n 0, 1) := by decide +kernel
theorem dX10_readsAmount_23 : decode cX10_readsAmount 23 = .ok (.iconst 0, 1) := by decide +kernel
theorem dX10_readsAmount_24 : decode cX10_readsAmount 24 = .ok (.putfield 154, 3) := by decide +kernel
theorem dX10_readsAmount_27 : decode cX10_readsAmount 27 = .ok (.aload_n 0, 1) := by decide +kernel
theorem dX10_readsAmount_28 : decode cX10_readsAmount 28 = .ok (.invokevirtual 157, 3) := by decide +kernel
theorem dX10_readsAmount_31 : decode cX10_readsAmount 31 = .ok (.ifCond .eq 55, 3) := by decide +kernel
theorem dX10_readsAmount_34 : decode cX10_readsAmount 34 = .ok (.aload_n 0, 1) := by decide +kernel
theorem dX10_readsAmount_35 : decode cX10_readsAmount 35 = .ok (.getfield 138, 3) := by decide +kernel
theorem dX10_readsAmount_38 : decode cX10_readsAmount 38 = .ok (.iload_n 2, 1) := by decide +kernel
theorem dX10_readsAmount_39 : decode cX10_readsAmount 39 = .ok (.iload_n 1, 1) := by decide +kernel
theorem dX10_readsAmount_40 : decode cX10_readsAmount 40 = .ok (.iadd, 1) := by decide +kernel
theorem dX10_readsAmount_41 : decode cX10_readsAmount 41 = .ok (.if_icmp .ne 13, 3) := by decide +kernel
theorem dX10_readsAmount_44 : decode cX10_readsAmount 44 = .ok (.aload_n 0, 1) := by decide +kernel
theorem dX10_readsAmount_45 : decode cX10_readsAmount 45 = .ok (.iconst 2, 1) := by decide +kernel
theorem dX10_readsAmount_46 : decode cX10_readsAmount 46 = .ok (.aload_n 0, 1) := by decide +kernel
theorem dX10_readsAmount_47 : decode cX10_readsAmount 47 = .ok (.getfield 138, 3) := by decide +kernel
theorem dX10_readsAmount_50 : decode cX10_readsAmount 50 = .ok (.invokevirtual 151, 3) := by decide +kernel
theorem dX10_readsAmount_53 : decode cX10_readsAmount 53 = .ok (.ireturn, 1) := by decide +kernel
theorem dX10_readsAmount_54 : decode cX10_readsAmount 54 = .ok (.aload_n 0, 1) := by decide +kernel
theorem dX10_readsAmount_55 : decode cX10_readsAmount 55 = .ok (.bipush 10, 2) := by decide +kernel
theorem dX10_readsAmount_57 : decode cX10_readsAmount 57 = .ok (.aload_n 0, 1) := by decide +kernel
theorem dX10_readsAmount_58 : decode cX10_readsAmount 58 = .ok (.getfield 154, 3) := by decide +kernel
theorem dX10_readsAmount_61 : decode cX10_readsAmount 61 = .ok (.imul, 1) := by decide +kernel
theorem dX10_readsAmount_62 : decode cX10_readsAmount 62 = .ok (.aload_n 0, 1) := by decide +kernel
theorem dX10_readsAmount_63 : decode cX10_readsAmount 63 = .ok (.invokevirtual 144, 3) := by decide +kernel
theorem dX10_readsAmount_66 : decode cX10_readsAmount 66 = .ok (.iadd, 1) := by decide +kernel
theorem dX10_readsAmount_67 : decode cX10_readsAmount 67 = .ok (.bipush 48, 2) := by decide +kernel
theorem dX10_readsAmount_69 : decode cX10_readsAmount 69 = .ok (.isub, 1) := by decide +kernel
theorem dX10_readsAmount_70 : decode cX10_readsAmount 70 = .ok (.putfield 154, 3) := by decide +kernel
theorem dX10_readsAmount_73 : decode cX10_readsAmount 73 = .ok (.aload_n 0, 1) := by decide +kernel
theorem dX10_readsAmount_74 : decode cX10_readsAmount 74 = .ok (.aload_n 0, 1) := by decide +kernel
theorem dX10_readsAmount_75 : decode cX10_readsAmount 75 = .ok (.getfield 138, 3) := by decide +kernel
theorem dX10_readsAmount_78 : decode cX10_readsAmount 78 = .ok (.iconst 1, 1) := by decide +kernel
theorem dX10_readsAmount_79 : decode cX10_readsAmount 79 = .ok (.iadd, 1) := by decide +kernel
theorem dX10_readsAmount_80 : decode cX10_readsAmount 80 = .ok (.putfield 138, 3) := by decide +kernel
theorem dX10_readsAmount_83 : decode cX10_readsAmount 83 = .ok (.goto (-56), 3) := by decide +kernel
theorem dX10_readsAmount_86 : decode cX10_readsAmount 86 = .ok (.iconst 1, 1) := by decide +kernel
theorem dX10_readsAmount_87 : decode cX10_readsAmount 87 = .ok (.ireturn, 1) := by decide +kernel
set_option maxRecDepth 20000 in
theorem ggX10_readsOther_X10_isLetter : GoodIn wsX10_readsOther wsX10_isLetter := goodIn_r _ [7, 8, 9, 10, 6, 11, 1, 12, 13, 14, 15, 16, 30, 31, 32, 33, 34, 35, 36, 37, 38, 39, 40, 41, 42, 43, 44, 45, 46, 47, 48, 49, 50, 51, 52, 53, 54, 55, 56, 57, 58, 59, 60, 61, 62, 63, 64, 65, 66, 67, 68, 69, 70, 71, 72, 73, 74, 75, 76, 77, 78, 79, 80, 81] (by decide +kernel) (by decide +kernel)
set_option maxRecDepth 20000 in
theorem gX10_readsOther_X10_isLetter : GoodIn wsX10_readsOther (wsV RX10 271 RX10 yX10_isLetter wsX10_isLetter) := goodIn_app (goodIn_of _ (by decide +kernel)) ggX10_readsOther_X10_isLetter
set_option maxRecDepth 20000 in
theorem ggX10_readsOther_X10_wrongAt : GoodIn wsX10_readsOther wsX10_wrongAt := goodIn_r _ [20, 21, 30, 31, 32, 33, 34, 35, 36, 37, 38, 39, 40, 41, 42, 43, 44, 45, 46, 47, 48, 49, 50, 51, 52, 53, 54, 55, 56, 57, 58, 59, 60, 61, 62, 63, 64, 65, 66, 67, 68, 69, 70, 71, 72, 73, 74, 75, 76, 77, 78, 79, 80, 81] (by decide +kernel) (by decide +kernel)
set_option maxRecDepth 20000 in
theorem gX10_readsOther_X10_wrongAt : GoodIn wsX10_readsOther (wsV RX10 151 RX10 yX10_wrongAt wsX10_wrongAt) := goodIn_app (goodIn_of _ (by decide +kernel)) ggX10_readsOther_X10_wrongAt
set_option maxRecDepth 20000 in
theorem ggX10_readsOther_X10_here : GoodIn wsX10_readsOther wsX10_here := goodIn_r _ [11, 1, 12, 13, 30, 31, 32, 33, 34, 35, 36, 37, 38, 39, 40, 41, 42, 43, 44, 45, 46, 47, 48, 49, 50, 51, 52, 53, 54, 55, 56, 57, 58, 59, 60, 61, 62, 63, 64, 65, 66, 67, 68, 69, 70, 71, 72, 73, 74, 75, 76, 77, 78, 79, 80, 81] (by decide +kernel) (by decide +kernel)
set_option maxRecDepth 20000 in
theorem gX10_readsOther_X10_here : GoodIn wsX10_readsOther (wsV RX10 144 RX10 yX10_here wsX10_here) := goodIn_app (goodIn_of _ (by decide +kernel)) ggX10_readsOther_X10_here
set_option maxRecDepth 20000 in
theorem ggX10_readsOther_X10_isTold : GoodIn wsX10_readsOther wsX10_isTold := goodIn_r _ [25, 26, 14, 15, 6, 16, 27, 28, 29, 30, 31, 32, 33, 34, 35, 36, 37, 38, 39, 40, 41, 42, 43, 44, 45, 46, 47, 48, 49, 50, 51, 52, 53, 54, 55, 56, 57, 58, 59, 60, 61, 62, 63, 64, 65, 66, 67, 68, 69, 70, 71, 72, 73, 74, 75, 76, 77, 78, 79, 80, 81] (by decide +kernel) (by decide +kernel)
set_option maxRecDepth 20000 in
theorem gX10_readsOther_X10_isTold : GoodIn wsX10_readsOther (wsV RX10 128 RX10 yX10_isTold wsX10_isTold) := goodIn_app (goodIn_of _ (by decide +kernel)) ggX10_readsOther_X10_isTold
theorem dX10_readsOther_0 : decode cX10_readsOther 0 = .ok (.aload_n 0, 1) := by decide +kernel
theorem dX10_readsOther_1 : decode cX10_readsOther 1 = .ok (.invokevirtual 271, 3) := by decide +kernel
theorem dX10_readsOther_4 : decode cX10_readsOther 4 = .ok (.ifCond .ne 13, 3) := by decide +kernel
theorem dX10_readsOther_7 : decode cX10_readsOther 7 = .ok (.aload_n 0, 1) := by decide +kernel
theorem dX10_readsOther_8 : decode cX10_readsOther 8 = .ok (.iconst 1, 1) := by decide +kernel
theorem dX10_readsOther_9 : decode cX10_readsOther 9 = .ok (.aload_n 0, 1) := by decide +kernel
theorem dX10_readsOther_10 : decode cX10_readsOther 10 = .ok (.getfield 138, 3) := by decide +kernel
theorem dX10_readsOther_13 : decode cX10_readsOther 13 = .ok (.invokevirtual 151, 3) := by decide +kernel
theorem dX10_readsOther_16 : decode cX10_readsOther 16 = .ok (.ireturn, 1) := by decide +kernel
theorem dX10_readsOther_17 : decode cX10_readsOther 17 = .ok (.aload_n 0, 1) := by decide +kernel
theorem dX10_readsOther_18 : decode cX10_readsOther 18 = .ok (.invokevirtual 144, 3) := by decide +kernel
theorem dX10_readsOther_21 : decode cX10_readsOther 21 = .ok (.bipush 97, 2) := by decide +kernel
theorem dX10_readsOther_23 : decode cX10_readsOther 23 = .ok (.isub, 1) := by decide +kernel
theorem dX10_readsOther_24 : decode cX10_readsOther 24 = .ok (.istore_n 3, 1) := by decide +kernel
theorem dX10_readsOther_25 : decode cX10_readsOther 25 = .ok (.iload_n 3, 1) := by decide +kernel
theorem dX10_readsOther_26 : decode cX10_readsOther 26 = .ok (.iload_n 1, 1) := by decide +kernel
theorem dX10_readsOther_27 : decode cX10_readsOther 27 = .ok (.if_icmp .ne 14, 3) := by decide +kernel
theorem dX10_readsOther_30 : decode cX10_readsOther 30 = .ok (.aload_n 0, 1) := by decide +kernel
theorem dX10_readsOther_31 : decode cX10_readsOther 31 = .ok (.bipush 6, 2) := by decide +kernel
theorem dX10_readsOther_33 : decode cX10_readsOther 33 = .ok (.aload_n 0, 1) := by decide +kernel
theorem dX10_readsOther_34 : decode cX10_readsOther 34 = .ok (.getfield 138, 3) := by decide +kernel
theorem dX10_readsOther_37 : decode cX10_readsOther 37 = .ok (.invokevirtual 151, 3) := by decide +kernel
theorem dX10_readsOther_40 : decode cX10_readsOther 40 = .ok (.ireturn, 1) := by decide +kernel
theorem dX10_readsOther_41 : decode cX10_readsOther 41 = .ok (.aload_n 0, 1) := by decide +kernel
theorem dX10_readsOther_42 : decode cX10_readsOther 42 = .ok (.iload_n 3, 1) := by decide +kernel
theorem dX10_readsOther_43 : decode cX10_readsOther 43 = .ok (.invokevirtual 128, 3) := by decide +kernel
theorem dX10_readsOther_46 : decode cX10_readsOther 46 = .ok (.ifCond .ne 14, 3) := by decide +kernel
theorem dX10_readsOther_49 : decode cX10_readsOther 49 = .ok (.aload_n 0, 1) := by decide +kernel
theorem dX10_readsOther_50 : decode cX10_readsOther 50 = .ok (.bipush 7, 2) := by decide +kernel
theorem dX10_readsOther_52 : decode cX10_readsOther 52 = .ok (.aload_n 0, 1) := by decide +kernel
theorem dX10_readsOther_53 : decode cX10_readsOther 53 = .ok (.getfield 138, 3) := by decide +kernel
theorem dX10_readsOther_56 : decode cX10_readsOther 56 = .ok (.invokevirtual 151, 3) := by decide +kernel
theorem dX10_readsOther_59 : decode cX10_readsOther 59 = .ok (.ireturn, 1) := by decide +kernel
theorem dX10_readsOther_60 : decode cX10_readsOther 60 = .ok (.aload_n 0, 1) := by decide +kernel
theorem dX10_readsOther_61 : decode cX10_readsOther 61 = .ok (.aload_n 0, 1) := by decide +kernel
theorem dX10_readsOther_62 : decode cX10_readsOther 62 = .ok (.getfield 138, 3) := by decide +kernel
theorem dX10_readsOther_65 : decode cX10_readsOther 65 = .ok (.iconst 1, 1) := by decide +kernel
theorem dX10_readsOther_66 : decode cX10_readsOther 66 = .ok (.iadd, 1) := by decide +kernel
theorem dX10_readsOther_67 : decode cX10_readsOther 67 = .ok (.putfield 138, 3) := by decide +kernel
theorem dX10_readsOther_70 : decode cX10_readsOther 70 = .ok (.aload_n 0, 1) := by decide +kernel
theorem dX10_readsOther_71 : decode cX10_readsOther 71 = .ok (.getfield 19, 3) := by decide +kernel
theorem dX10_readsOther_74 : decode cX10_readsOther 74 = .ok (.iload_n 1, 1) := by decide +kernel
theorem dX10_readsOther_75 : decode cX10_readsOther 75 = .ok (.iload_n 2, 1) := by decide +kernel
theorem dX10_readsOther_76 : decode cX10_readsOther 76 = .ok (.ifCond .eq 16, 3) := by decide +kernel
theorem dX10_readsOther_79 : decode cX10_readsOther 79 = .ok (.aload_n 0, 1) := by decide +kernel
theorem dX10_readsOther_80 : decode cX10_readsOther 80 = .ok (.getfield 19, 3) := by decide +kernel
theorem dX10_readsOther_83 : decode cX10_readsOther 83 = .ok (.iload_n 1, 1) := by decide +kernel
theorem dX10_readsOther_84 : decode cX10_readsOther 84 = .ok (.iaload, 1) := by decide +kernel
theorem dX10_readsOther_85 : decode cX10_readsOther 85 = .ok (.iconst 1, 1) := by decide +kernel
theorem dX10_readsOther_86 : decode cX10_readsOther 86 = .ok (.iload_n 3, 1) := by decide +kernel
theorem dX10_readsOther_87 : decode cX10_readsOther 87 = .ok (.ishl, 1) := by decide +kernel
theorem dX10_readsOther_88 : decode cX10_readsOther 88 = .ok (.ior, 1) := by decide +kernel
theorem dX10_readsOther_89 : decode cX10_readsOther 89 = .ok (.goto 15, 3) := by decide +kernel
theorem dX10_readsOther_92 : decode cX10_readsOther 92 = .ok (.aload_n 0, 1) := by decide +kernel
theorem dX10_readsOther_93 : decode cX10_readsOther 93 = .ok (.getfield 19, 3) := by decide +kernel
theorem dX10_readsOther_96 : decode cX10_readsOther 96 = .ok (.iload_n 1, 1) := by decide +kernel
theorem dX10_readsOther_97 : decode cX10_readsOther 97 = .ok (.iaload, 1) := by decide +kernel
theorem dX10_readsOther_98 : decode cX10_readsOther 98 = .ok (.iconst 1, 1) := by decide +kernel
theorem dX10_readsOther_99 : decode cX10_readsOther 99 = .ok (.iload_n 3, 1) := by decide +kernel
theorem dX10_readsOther_100 : decode cX10_readsOther 100 = .ok (.ishl, 1) := by decide +kernel
theorem dX10_readsOther_101 : decode cX10_readsOther 101 = .ok (.iconst (-1), 1) := by decide +kernel
theorem dX10_readsOther_102 : decode cX10_readsOther 102 = .ok (.ixor, 1) := by decide +kernel
theorem dX10_readsOther_103 : decode cX10_readsOther 103 = .ok (.iand, 1) := by decide +kernel
theorem dX10_readsOther_104 : decode cX10_readsOther 104 = .ok (.iastore, 1) := by decide +kernel
theorem dX10_readsOther_105 : decode cX10_readsOther 105 = .ok (.aload_n 0, 1) := by decide +kernel
theorem dX10_readsOther_106 : decode cX10_readsOther 106 = .ok (.getfield 19, 3) := by decide +kernel
theorem dX10_readsOther_109 : decode cX10_readsOther 109 = .ok (.iload_n 3, 1) := by decide +kernel
theorem dX10_readsOther_110 : decode cX10_readsOther 110 = .ok (.iload_n 2, 1) := by decide +kernel
theorem dX10_readsOther_111 : decode cX10_readsOther 111 = .ok (.ifCond .eq 16, 3) := by decide +kernel
theorem dX10_readsOther_114 : decode cX10_readsOther 114 = .ok (.aload_n 0, 1) := by decide +kernel
theorem dX10_readsOther_115 : decode cX10_readsOther 115 = .ok (.getfield 19, 3) := by decide +kernel
theorem dX10_readsOther_118 : decode cX10_readsOther 118 = .ok (.iload_n 3, 1) := by decide +kernel
theorem dX10_readsOther_119 : decode cX10_readsOther 119 = .ok (.iaload, 1) := by decide +kernel
theorem dX10_readsOther_120 : decode cX10_readsOther 120 = .ok (.iconst 1, 1) := by decide +kernel
theorem dX10_readsOther_121 : decode cX10_readsOther 121 = .ok (.iload_n 1, 1) := by decide +kernel
theorem dX10_readsOther_122 : decode cX10_readsOther 122 = .ok (.ishl, 1) := by decide +kernel
theorem dX10_readsOther_123 : decode cX10_readsOther 123 = .ok (.ior, 1) := by decide +kernel
theorem dX10_readsOther_124 : decode cX10_readsOther 124 = .ok (.goto 15, 3) := by decide +kernel
theorem dX10_readsOther_127 : decode cX10_readsOther 127 = .ok (.aload_n 0, 1) := by decide +kernel
theorem dX10_readsOther_128 : decode cX10_readsOther 128 = .ok (.getfield 19, 3) := by decide +kernel
theorem dX10_readsOther_131 : decode cX10_readsOther 131 = .ok (.iload_n 3, 1) := by decide +kernel
theorem dX10_readsOther_132 : decode cX10_readsOther 132 = .ok (.iaload, 1) := by decide +kernel
theorem dX10_readsOther_133 : decode cX10_readsOther 133 = .ok (.iconst 1, 1) := by decide +kernel
theorem dX10_readsOther_134 : decode cX10_readsOther 134 = .ok (.iload_n 1, 1) := by decide +kernel
theorem dX10_readsOther_135 : decode cX10_readsOther 135 = .ok (.ishl, 1) := by decide +kernel
theorem dX10_readsOther_136 : decode cX10_readsOther 136 = .ok (.iconst (-1), 1) := by decide +kernel
theorem dX10_readsOther_137 : decode cX10_readsOther 137 = .ok (.ixor, 1) := by decide +kernel
theorem dX10_readsOther_138 : decode cX10_readsOther 138 = .ok (.iand, 1) := by decide +kernel
theorem dX10_readsOther_139 : decode cX10_readsOther 139 = .ok (.iastore, 1) := by decide +kernel
theorem dX10_readsOther_140 : decode cX10_readsOther 140 = .ok (.iconst 1, 1) := by decide +kernel
theorem dX10_readsOther_141 : decode cX10_readsOther 141 = .ok (.ireturn, 1) := by decide +kernel
set_option maxRecDepth 20000 in
theorem ggX10_readsLine_X10_isLetter : GoodIn wsX10_readsLine wsX10_isLetter := goodIn_r _ [9, 10, 11, 12, 8, 13, 1, 14, 15, 16, 17, 18, 51, 52, 53, 54, 55, 56, 57, 58, 59, 60, 61, 62, 63, 64, 65, 66, 67, 68, 69, 70, 71, 72, 73, 74, 75, 76, 77, 78, 79, 80, 81, 82, 83, 84, 85, 86, 87, 88, 89, 90, 91, 92, 93, 94, 95, 96, 97, 98, 99, 100, 101, 102] (by decide +kernel) (by decide +kernel)
set_option maxRecDepth 20000 in
theorem gX10_readsLine_X10_isLetter : GoodIn wsX10_readsLine (wsV RX10 271 RX10 yX10_isLetter wsX10_isLetter) := goodIn_app (goodIn_of _ (by decide +kernel)) ggX10_readsLine_X10_isLetter
set_option maxRecDepth 20000 in
theorem ggX10_readsLine_X10_wrongAt : GoodIn wsX10_readsLine wsX10_wrongAt := goodIn_r _ [22, 23, 51, 52, 53, 54, 55, 56, 57, 58, 59, 60, 61, 62, 63, 64, 65, 66, 67, 68, 69, 70, 71, 72, 73, 74, 75, 76, 77, 78, 79, 80, 81, 82, 83, 84, 85, 86, 87, 88, 89, 90, 91, 92, 93, 94, 95, 96, 97, 98, 99, 100, 101, 102] (by decide +kernel) (by decide +kernel)
set_option maxRecDepth 20000 in
theorem gX10_readsLine_X10_wrongAt : GoodIn wsX10_readsLine (wsV RX10 151 RX10 yX10_wrongAt wsX10_wrongAt) := goodIn_app (goodIn_of _ (by decide +kernel)) ggX10_readsLine_X10_wrongAt
set_option maxRecDepth 20000 in
theorem ggX10_readsLine_X10_here : GoodIn wsX10_readsLine wsX10_here := goodIn_r _ [13, 1, 14, 15, 51, 52, 53, 54, 55, 56, 57, 58, 59, 60, 61, 62, 63, 64, 65, 66, 67, 68, 69, 70, 71, 72, 73, 74, 75, 76, 77, 78, 79, 80, 81, 82, 83, 84, 85, 86, 87, 88, 89, 90, 91, 92, 93, 94, 95, 96, 97, 98, 99, 100, 101, 102] (by decide +kernel) (by decide +kernel)
set_option maxRecDepth 20000 in
theorem gX10_readsLine_X10_here : GoodIn wsX10_readsLine (wsV RX10 144 RX10 yX10_here wsX10_here) := goodIn_app (goodIn_of _ (by decide +kernel)) ggX10_readsLine_X10_here
set_option maxRecDepth 20000 in
theorem ggX10_readsLine_X10_isTold : GoodIn wsX10_readsLine wsX10_isTold := goodIn_r _ [27, 28, 16, 17, 8, 18, 29, 30, 31, 51, 52, 53, 54, 55, 56, 57, 58, 59, 60, 61, 62, 63, 64, 65, 66, 67, 68, 69, 70, 71, 72, 73, 74, 75, 76, 77, 78, 79, 80, 81, 82, 83, 84, 85, 86, 87, 88, 89, 90, 91, 92, 93, 94, 95, 96, 97, 98, 99, 100, 101, 102] (by decide +kernel) (by decide +kernel)
set_option maxRecDepth 20000 in
theorem gX10_readsLine_X10_isTold : GoodIn wsX10_readsLine (wsV RX10 128 RX10 yX10_isTold wsX10_isTold) := goodIn_app (goodIn_of _ (by decide +kernel)) ggX10_readsLine_X10_isTold
set_option maxRecDepth 20000 in
theorem ggX10_readsLine_X10_readsOther : GoodIn wsX10_readsLine wsX10_readsOther := goodIn_r _ [35, 1, 36, 5, 6, 7, 8, 9, 10, 11, 12, 13, 14, 15, 16, 17, 18, 19, 20, 21, 22, 23, 24, 25, 26, 27, 28, 29, 30, 31, 51, 52, 53, 54, 55, 56, 57, 58, 59, 60, 61, 62, 63, 64, 65, 66, 67, 68, 69, 70, 71, 72, 73, 74, 75, 76, 77, 78, 79, 80, 81, 82, 83, 84, 85, 86, 87, 88, 89, 90, 91, 92, 93, 94, 95, 96, 97, 98, 99, 100, 101, 102] (by decide +kernel) (by decide +kernel)
set_option maxRecDepth 20000 in
theorem gX10_readsLine_X10_readsOther : GoodIn wsX10_readsLine (wsV RX10 277 RX10 yX10_readsOther wsX10_readsOther) := goodIn_app (goodIn_of _ (by decide +kernel)) ggX10_readsLine_X10_readsOther
set_option maxRecDepth 20000 in
theorem ggX10_readsLine_X10_readsAmount : GoodIn wsX10_readsLine wsX10_readsAmount := goodIn_r _ [40, 1, 4, 41, 42, 43, 8, 44, 10, 11, 12, 13, 14, 15, 19, 20, 21, 22, 23, 51, 52, 53, 54, 55, 56, 57, 58, 59, 60, 61, 62, 63, 64, 65, 66, 67, 68, 69, 70, 71, 72, 73, 74, 75, 76, 77, 78, 79, 80, 81, 82, 83, 84, 85, 86, 87, 88, 89, 90, 91, 92, 93, 94, 95, 96, 97, 98, 99, 100, 101, 102] (by decide +kernel) (by decide +kernel)
set_option maxRecDepth 20000 in
theorem gX10_readsLine_X10_readsAmount : GoodIn wsX10_readsLine (wsV RX10 281 RX10 yX10_readsAmount wsX10_readsAmount) := goodIn_app (goodIn_of _ (by decide +kernel)) ggX10_readsLine_X10_readsAmount
set_option maxRecDepth 20000 in
theorem ggX10_readsLine_X10_min : GoodIn wsX10_readsLine wsX10_min := goodIn_r _ [47] (by decide +kernel) (by decide +kernel)
set_option maxRecDepth 20000 in
theorem gX10_readsLine_X10_min : GoodIn wsX10_readsLine (va_wsS RX10 284 yX10_min wsX10_min) := goodIn_app (goodIn_of _ (by decide +kernel)) ggX10_readsLine_X10_min
set_option maxRecDepth 20000 in
theorem ggX10_readsLine_X10_max : GoodIn wsX10_readsLine wsX10_max := goodIn_r _ [50] (by decide +kernel) (by decide +kernel)
set_option maxRecDepth 20000 in
theorem gX10_readsLine_X10_max : GoodIn wsX10_readsLine (va_wsS RX10 287 yX10_max wsX10_max) := goodIn_app (goodIn_of _ (by decide +kernel)) ggX10_readsLine_X10_max
theorem dX10_readsLine_0 : decode cX10_readsLine 0 = .ok (.aload_n 0, 1) := by decide +kernel
theorem dX10_readsLine_1 : decode cX10_readsLine 1 = .ok (.invokevirtual 271, 3) := by decide +kernel
theorem dX10_readsLine_4 : decode cX10_readsLine 4 = .ok (.ifCond .ne 13, 3) := by decide +kernel
theorem dX10_readsLine_7 : decode cX10_readsLine 7 = .ok (.aload_n 0, 1) := by decide +kernel
theorem dX10_readsLine_8 : decode cX10_readsLine 8 = .ok (.iconst 1, 1) := by decide +kernel
theorem dX10_readsLine_9 : decode cX10_readsLine 9 = .ok (.aload_n 0, 1) := by decide +kernel
theorem dX10_readsLine_10 : decode cX10_readsLine 10 = .ok (.getfield 138, 3) := by decide +kernel
theorem dX10_readsLine_13 : decode cX10_readsLine 13 = .ok (.invokevirtual 151, 3) := by decide +kernel
theorem dX10_readsLine_16 : decode cX10_readsLine 16 = .ok (.ireturn, 1) := by decide +kernel
theorem dX10_readsLine_17 : decode cX10_readsLine 17 = .ok (.aload_n 0, 1) := by decide +kernel
theorem dX10_readsLine_18 : decode cX10_readsLine 18 = .ok (.getfield 274, 3) := by decide +kernel
theorem dX10_readsLine_21 : decode cX10_readsLine 21 = .ok (.bipush 20, 2) := by decide +kernel
theorem dX10_readsLine_23 : decode cX10_readsLine 23 = .ok (.if_icmp .ne 13, 3) := by decide +kernel
theorem dX10_readsLine_26 : decode cX10_readsLine 26 = .ok (.aload_n 0, 1) := by decide +kernel
theorem dX10_readsLine_27 : decode cX10_readsLine 27 = .ok (.iconst 4, 1) := by decide +kernel
theorem dX10_readsLine_28 : decode cX10_readsLine 28 = .ok (.aload_n 0, 1) := by decide +kernel
theorem dX10_readsLine_29 : decode cX10_readsLine 29 = .ok (.getfield 138, 3) := by decide +kernel
theorem dX10_readsLine_32 : decode cX10_readsLine 32 = .ok (.invokevirtual 151, 3) := by decide +kernel
theorem dX10_readsLine_35 : decode cX10_readsLine 35 = .ok (.ireturn, 1) := by decide +kernel
theorem dX10_readsLine_36 : decode cX10_readsLine 36 = .ok (.aload_n 0, 1) := by decide +kernel
theorem dX10_readsLine_37 : decode cX10_readsLine 37 = .ok (.aload_n 0, 1) := by decide +kernel
theorem dX10_readsLine_38 : decode cX10_readsLine 38 = .ok (.getfield 274, 3) := by decide +kernel
theorem dX10_readsLine_41 : decode cX10_readsLine 41 = .ok (.iconst 1, 1) := by decide +kernel
theorem dX10_readsLine_42 : decode cX10_readsLine 42 = .ok (.iadd, 1) := by decide +kernel
theorem dX10_readsLine_43 : decode cX10_readsLine 43 = .ok (.putfield 274, 3) := by decide +kernel
theorem dX10_readsLine_46 : decode cX10_readsLine 46 = .ok (.aload_n 0, 1) := by decide +kernel
theorem dX10_readsLine_47 : decode cX10_readsLine 47 = .ok (.invokevirtual 144, 3) := by decide +kernel
theorem dX10_readsLine_50 : decode cX10_readsLine 50 = .ok (.bipush 97, 2) := by decide +kernel
theorem dX10_readsLine_52 : decode cX10_readsLine 52 = .ok (.isub, 1) := by decide +kernel
theorem dX10_readsLine_53 : decode cX10_readsLine 53 = .ok (.istore_n 1, 1) := by decide +kernel
theorem dX10_readsLine_54 : decode cX10_readsLine 54 = .ok (.aload_n 0, 1) := by decide +kernel
theorem dX10_readsLine_55 : decode cX10_readsLine 55 = .ok (.iload_n 1, 1) := by decide +kernel
theorem dX10_readsLine_56 : decode cX10_readsLine 56 = .ok (.invokevirtual 128, 3) := by decide +kernel
theorem dX10_readsLine_59 : decode cX10_readsLine 59 = .ok (.ifCond .ne 14, 3) := by decide +kernel
theorem dX10_readsLine_62 : decode cX10_readsLine 62 = .ok (.aload_n 0, 1) := by decide +kernel
theorem dX10_readsLine_63 : decode cX10_readsLine 63 = .ok (.bipush 7, 2) := by decide +kernel
theorem dX10_readsLine_65 : decode cX10_readsLine 65 = .ok (.aload_n 0, 1) := by decide +kernel
theorem dX10_readsLine_66 : decode cX10_readsLine 66 = .ok (.getfield 138, 3) := by decide +kernel
theorem dX10_readsLine_69 : decode cX10_readsLine 69 = .ok (.invokevirtual 151, 3) := by decide +kernel
theorem dX10_readsLine_72 : decode cX10_readsLine 72 = .ok (.ireturn, 1) := by decide +kernel
theorem dX10_readsLine_73 : decode cX10_readsLine 73 = .ok (.aload_n 0, 1) := by decide +kernel
theorem dX10_readsLine_74 : decode cX10_readsLine 74 = .ok (.aload_n 0, 1) := by decide +kernel
theorem dX10_readsLine_75 : decode cX10_readsLine 75 = .ok (.getfield 138, 3) := by decide +kernel
theorem dX10_readsLine_78 : decode cX10_readsLine 78 = .ok (.iconst 1, 1) := by decide +kernel
theorem dX10_readsLine_79 : decode cX10_readsLine 79 = .ok (.iadd, 1) := by decide +kernel
theorem dX10_readsLine_80 : decode cX10_readsLine 80 = .ok (.putfield 138, 3) := by decide +kernel
theorem dX10_readsLine_83 : decode cX10_readsLine 83 = .ok (.aload_n 0, 1) := by decide +kernel
theorem dX10_readsLine_84 : decode cX10_readsLine 84 = .ok (.invokevirtual 144, 3) := by decide +kernel
theorem dX10_readsLine_87 : decode cX10_readsLine 87 = .ok (.istore_n 2, 1) := by decide +kernel
theorem dX10_readsLine_88 : decode cX10_readsLine 88 = .ok (.iload_n 2, 1) := by decide +kernel
theorem dX10_readsLine_89 : decode cX10_readsLine 89 = .ok (.bipush 43, 2) := by decide +kernel
theorem dX10_readsLine_91 : decode cX10_readsLine 91 = .ok (.if_icmp .eq 37, 3) := by decide +kernel
theorem dX10_readsLine_94 : decode cX10_readsLine 94 = .ok (.iload_n 2, 1) := by decide +kernel
theorem dX10_readsLine_95 : decode cX10_readsLine 95 = .ok (.bipush 45, 2) := by decide +kernel
theorem dX10_readsLine_97 : decode cX10_readsLine 97 = .ok (.if_icmp .eq 31, 3) := by decide +kernel
theorem dX10_readsLine_100 : decode cX10_readsLine 100 = .ok (.iload_n 2, 1) := by decide +kernel
theorem dX10_readsLine_101 : decode cX10_readsLine 101 = .ok (.bipush 61, 2) := by decide +kernel
theorem dX10_readsLine_103 : decode cX10_readsLine 103 = .ok (.if_icmp .eq 25, 3) := by decide +kernel
theorem dX10_readsLine_106 : decode cX10_readsLine 106 = .ok (.iload_n 2, 1) := by decide +kernel
theorem dX10_readsLine_107 : decode cX10_readsLine 107 = .ok (.bipush 38, 2) := by decide +kernel
theorem dX10_readsLine_109 : decode cX10_readsLine 109 = .ok (.if_icmp .eq 19, 3) := by decide +kernel
theorem dX10_readsLine_112 : decode cX10_readsLine 112 = .ok (.iload_n 2, 1) := by decide +kernel
theorem dX10_readsLine_113 : decode cX10_readsLine 113 = .ok (.bipush 47, 2) := by decide +kernel
theorem dX10_readsLine_115 : decode cX10_readsLine 115 = .ok (.if_icmp .eq 13, 3) := by decide +kernel
theorem dX10_readsLine_118 : decode cX10_readsLine 118 = .ok (.aload_n 0, 1) := by decide +kernel
theorem dX10_readsLine_119 : decode cX10_readsLine 119 = .ok (.iconst 1, 1) := by decide +kernel
theorem dX10_readsLine_120 : decode cX10_readsLine 120 = .ok (.aload_n 0, 1) := by decide +kernel
theorem dX10_readsLine_121 : decode cX10_readsLine 121 = .ok (.getfield 138, 3) := by decide +kernel
theorem dX10_readsLine_124 : decode cX10_readsLine 124 = .ok (.invokevirtual 151, 3) := by decide +kernel
theorem dX10_readsLine_127 : decode cX10_readsLine 127 = .ok (.ireturn, 1) := by decide +kernel
theorem dX10_readsLine_128 : decode cX10_readsLine 128 = .ok (.aload_n 0, 1) := by decide +kernel
theorem dX10_readsLine_129 : decode cX10_readsLine 129 = .ok (.aload_n 0, 1) := by decide +kernel
theorem dX10_readsLine_130 : decode cX10_readsLine 130 = .ok (.getfield 138, 3) := by decide +kernel
theorem dX10_readsLine_133 : decode cX10_readsLine 133 = .ok (.iconst 1, 1) := by decide +kernel
theorem dX10_readsLine_134 : decode cX10_readsLine 134 = .ok (.iadd, 1) := by decide +kernel
theorem dX10_readsLine_135 : decode cX10_readsLine 135 = .ok (.putfield 138, 3) := by decide +kernel
theorem dX10_readsLine_138 : decode cX10_readsLine 138 = .ok (.iload_n 2, 1) := by decide +kernel
theorem dX10_readsLine_139 : decode cX10_readsLine 139 = .ok (.bipush 38, 2) := by decide +kernel
theorem dX10_readsLine_141 : decode cX10_readsLine 141 = .ok (.if_icmp .eq 9, 3) := by decide +kernel
theorem dX10_readsLine_144 : decode cX10_readsLine 144 = .ok (.iload_n 2, 1) := by decide +kernel
theorem dX10_readsLine_145 : decode cX10_readsLine 145 = .ok (.bipush 47, 2) := by decide +kernel
theorem dX10_readsLine_147 : decode cX10_readsLine 147 = .ok (.if_icmp .ne 20, 3) := by decide +kernel
theorem dX10_readsLine_150 : decode cX10_readsLine 150 = .ok (.aload_n 0, 1) := by decide +kernel
theorem dX10_readsLine_151 : decode cX10_readsLine 151 = .ok (.iload_n 1, 1) := by decide +kernel
theorem dX10_readsLine_152 : decode cX10_readsLine 152 = .ok (.iload_n 2, 1) := by decide +kernel
theorem dX10_readsLine_153 : decode cX10_readsLine 153 = .ok (.bipush 38, 2) := by decide +kernel
theorem dX10_readsLine_155 : decode cX10_readsLine 155 = .ok (.if_icmp .ne 7, 3) := by decide +kernel
theorem dX10_readsLine_158 : decode cX10_readsLine 158 = .ok (.iconst 1, 1) := by decide +kernel
theorem dX10_readsLine_159 : decode cX10_readsLine 159 = .ok (.goto 4, 3) := by decide +kernel
theorem dX10_readsLine_162 : decode cX10_readsLine 162 = .ok (.iconst 0, 1) := by decide +kernel
theorem dX10_readsLine_163 : decode cX10_readsLine 163 = .ok (.invokevirtual 277, 3) := by decide +kernel
theorem dX10_readsLine_166 : decode cX10_readsLine 166 = .ok (.ireturn, 1) := by decide +kernel
theorem dX10_readsLine_167 : decode cX10_readsLine 167 = .ok (.aload_n 0, 1) := by decide +kernel
theorem dX10_readsLine_168 : decode cX10_readsLine 168 = .ok (.iload_n 2, 1) := by decide +kernel
theorem dX10_readsLine_169 : decode cX10_readsLine 169 = .ok (.bipush 61, 2) := by decide +kernel
theorem dX10_readsLine_171 : decode cX10_readsLine 171 = .ok (.if_icmp .ne 7, 3) := by decide +kernel
theorem dX10_readsLine_174 : decode cX10_readsLine 174 = .ok (.iconst 3, 1) := by decide +kernel
theorem dX10_readsLine_175 : decode cX10_readsLine 175 = .ok (.goto 4, 3) := by decide +kernel
theorem dX10_readsLine_178 : decode cX10_readsLine 178 = .ok (.iconst 2, 1) := by decide +kernel
theorem dX10_readsLine_179 : decode cX10_readsLine 179 = .ok (.invokevirtual 281, 3) := by decide +kernel
theorem dX10_readsLine_182 : decode cX10_readsLine 182 = .ok (.ifCond .ne 5, 3) := by decide +kernel
theorem dX10_readsLine_185 : decode cX10_readsLine 185 = .ok (.iconst 0, 1) := by decide +kernel
theorem dX10_readsLine_186 : decode cX10_readsLine 186 = .ok (.ireturn, 1) := by decide +kernel
theorem dX10_readsLine_187 : decode cX10_readsLine 187 = .ok (.iload_n 2, 1) := by decide +kernel
theorem dX10_readsLine_188 : decode cX10_readsLine 188 = .ok (.bipush 61, 2) := by decide +kernel
theorem dX10_readsLine_190 : decode cX10_readsLine 190 = .ok (.if_icmp .ne 19, 3) := by decide +kernel
theorem dX10_readsLine_193 : decode cX10_readsLine 193 = .ok (.aload_n 0, 1) := by decide +kernel
theorem dX10_readsLine_194 : decode cX10_readsLine 194 = .ok (.getfield 7, 3) := by decide +kernel
theorem dX10_readsLine_197 : decode cX10_readsLine 197 = .ok (.bipush 16, 2) := by decide +kernel
theorem dX10_readsLine_199 : decode cX10_readsLine 199 = .ok (.iload_n 1, 1) := by decide +kernel
theorem dX10_readsLine_200 : decode cX10_readsLine 200 = .ok (.iadd, 1) := by decide +kernel
theorem dX10_readsLine_201 : decode cX10_readsLine 201 = .ok (.aload_n 0, 1) := by decide +kernel
theorem dX10_readsLine_202 : decode cX10_readsLine 202 = .ok (.getfield 154, 3) := by decide +kernel
theorem dX10_readsLine_205 : decode cX10_readsLine 205 = .ok (.iastore, 1) := by decide +kernel
theorem dX10_readsLine_206 : decode cX10_readsLine 206 = .ok (.goto 47, 3) := by decide +kernel
theorem dX10_readsLine_209 : decode cX10_readsLine 209 = .ok (.aload_n 0, 1) := by decide +kernel
theorem dX10_readsLine_210 : decode cX10_readsLine 210 = .ok (.getfield 7, 3) := by decide +kernel
theorem dX10_readsLine_213 : decode cX10_readsLine 213 = .ok (.iconst 0, 1) := by decide +kernel
theorem dX10_readsLine_214 : decode cX10_readsLine 214 = .ok (.iload_n 1, 1) := by decide +kernel
theorem dX10_readsLine_215 : decode cX10_readsLine 215 = .ok (.iadd, 1) := by decide +kernel
theorem dX10_readsLine_216 : decode cX10_readsLine 216 = .ok (.iconst 0, 1) := by decide +kernel
theorem dX10_readsLine_217 : decode cX10_readsLine 217 = .ok (.bipush 99, 2) := by decide +kernel
theorem dX10_readsLine_219 : decode cX10_readsLine 219 = .ok (.aload_n 0, 1) := by decide +kernel
theorem dX10_readsLine_220 : decode cX10_readsLine 220 = .ok (.getfield 7, 3) := by decide +kernel
theorem dX10_readsLine_223 : decode cX10_readsLine 223 = .ok (.iconst 0, 1) := by decide +kernel
theorem dX10_readsLine_224 : decode cX10_readsLine 224 = .ok (.iload_n 1, 1) := by decide +kernel
theorem dX10_readsLine_225 : decode cX10_readsLine 225 = .ok (.iadd, 1) := by decide +kernel
theorem dX10_readsLine_226 : decode cX10_readsLine 226 = .ok (.iaload, 1) := by decide +kernel
theorem dX10_readsLine_227 : decode cX10_readsLine 227 = .ok (.iload_n 2, 1) := by decide +kernel
theorem dX10_readsLine_228 : decode cX10_readsLine 228 = .ok (.bipush 43, 2) := by decide +kernel
theorem dX10_readsLine_230 : decode cX10_readsLine 230 = .ok (.if_icmp .ne 10, 3) := by decide +kernel
theorem dX10_readsLine_233 : decode cX10_readsLine 233 = .ok (.aload_n 0, 1) := by decide +kernel
theorem dX10_readsLine_234 : decode cX10_readsLine 234 = .ok (.getfield 154, 3) := by decide +kernel
theorem dX10_readsLine_237 : decode cX10_readsLine 237 = .ok (.goto 8, 3) := by decide +kernel
theorem dX10_readsLine_240 : decode cX10_readsLine 240 = .ok (.aload_n 0, 1) := by decide +kernel
theorem dX10_readsLine_241 : decode cX10_readsLine 241 = .ok (.getfield 154, 3) := by decide +kernel
theorem dX10_readsLine_244 : decode cX10_readsLine 244 = .ok (.ineg, 1) := by decide +kernel
theorem dX10_readsLine_245 : decode cX10_readsLine 245 = .ok (.iadd, 1) := by decide +kernel
theorem dX10_readsLine_246 : decode cX10_readsLine 246 = .ok (.invokestatic 284, 3) := by decide +kernel
theorem dX10_readsLine_249 : decode cX10_readsLine 249 = .ok (.invokestatic 287, 3) := by decide +kernel
theorem dX10_readsLine_252 : decode cX10_readsLine 252 = .ok (.iastore, 1) := by decide +kernel
theorem dX10_readsLine_253 : decode cX10_readsLine 253 = .ok (.iconst 1, 1) := by decide +kernel
theorem dX10_readsLine_254 : decode cX10_readsLine 254 = .ok (.ireturn, 1) := by decide +kernel
set_option maxRecDepth 20000 in
theorem ggX10_pleas_X10_in : GoodIn wsX10_pleas wsX10_in := goodIn_r _ [13] (by decide +kernel) (by decide +kernel)
set_option maxRecDepth 20000 in
theorem gX10_pleas_X10_in : GoodIn wsX10_pleas (va_wsS RX10 112 yX10_in wsX10_in) := goodIn_app (goodIn_of _ (by decide +kernel)) ggX10_pleas_X10_in
set_option maxRecDepth 20000 in
theorem ggX10_pleas_X10_beginsText : GoodIn wsX10_pleas wsX10_beginsText := goodIn_r _ [17, 7, 8, 18, 19, 71, 72, 73, 74, 75, 76, 77, 78, 79, 80, 81, 82, 83, 84, 85, 86, 87, 88, 89, 90, 91, 92, 93, 94, 95, 96, 97, 98, 99, 100, 101, 102, 103, 104, 105, 106, 107, 108, 109, 110, 111, 112, 113, 114, 115, 116, 117, 118, 119, 120, 121, 122] (by decide +kernel) (by decide +kernel)
set_option maxRecDepth 20000 in
theorem gX10_pleas_X10_beginsText : GoodIn wsX10_pleas (wsV RX10 221 RX10 yX10_beginsText wsX10_beginsText) := goodIn_app (goodIn_of _ (by decide +kernel)) ggX10_pleas_X10_beginsText
set_option maxRecDepth 20000 in
theorem ggX10_pleas_X10_copies : GoodIn wsX10_pleas wsX10_copies := goodIn_r _ [22] (by decide +kernel) (by decide +kernel)
set_option maxRecDepth 20000 in
theorem gX10_pleas_X10_copies : GoodIn wsX10_pleas (va_wsS RX10 290 yX10_copies wsX10_copies) := goodIn_app (goodIn_of _ (by decide +kernel)) ggX10_pleas_X10_copies
set_option maxRecDepth 20000 in
theorem ggX10_pleas_X10_readsLine : GoodIn wsX10_pleas wsX10_readsLine := goodIn_r _ [26, 7, 2, 3, 27, 28, 29, 30, 12, 31, 32, 33, 34, 35, 8, 36, 10, 11, 13, 37, 38, 39, 40, 9, 41, 42, 43, 44, 45, 46, 47, 48, 49, 50, 51, 52, 6, 53, 54, 55, 56, 57, 58, 59, 60, 61, 62, 63, 64, 65, 66, 71, 72, 73, 74, 75, 76, 77, 78, 79, 80, 81, 82, 83, 84, 85, 86, 87, 88, 89, 90, 91, 92, 93, 94, 95, 96, 97, 98, 99, 100, 101, 102, 103, 104, 105, 106, 107, 108, 109, 110, 111, 112, 113, 114, 115, 116, 117, 118, 119, 120, 121, 122] (by decide +kernel) (by decide +kernel)
set_option maxRecDepth 20000 in
theorem gX10_pleas_X10_readsLine : GoodIn wsX10_pleas (wsV RX10 294 RX10 yX10_readsLine wsX10_readsLine) := goodIn_app (goodIn_of _ (by decide +kernel)) ggX10_pleas_X10_readsLine
set_option maxRecDepth 20000 in
theorem ggX10_pleas_X10_takes : GoodIn wsX10_pleas wsX10_takes := goodIn_r _ [70, 7, 32, 33, 34, 12, 35, 8, 36, 37, 38, 39, 40, 9, 71, 72, 73, 74, 75, 76, 77, 78, 79, 80, 81, 82, 83, 84, 85, 86, 87, 88, 89, 90, 91, 92, 93, 94, 95, 96, 97, 98, 99, 100, 101, 102, 103, 104, 105, 106, 107, 108, 109, 110, 111, 112, 113, 114, 115, 116, 117, 118, 119, 120, 121, 122] (by decide +kernel) (by decide +kernel)
set_option maxRecDepth 20000 in
theorem gX10_pleas_X10_takes : GoodIn wsX10_pleas (wsV RX10 227 RX10 yX10_takes wsX10_takes) := goodIn_app (goodIn_of _ (by decide +kernel)) ggX10_pleas_X10_takes
theorem dX10_pleas_0 : decode cX10_pleas 0 = .ok (.iload_n 1, 1) := by decide +kernel
theorem dX10_pleas_1 : decode cX10_pleas 1 = .ok (.iconst 1, 1) := by decide +kernel
theorem dX10_pleas_2 : decode cX10_pleas 2 = .ok (.bipush 120, 2) := by decide +kernel
theorem dX10_pleas_4 : decode cX10_pleas 4 = .ok (.invokestatic 112, 3) := by decide +kernel
theorem dX10_pleas_7 : decode cX10_pleas 7 = .ok (.ifCond .eq 11, 3) := by decide +kernel
theorem dX10_pleas_10 : decode cX10_pleas 10 = .ok (.iload_n 1, 1) := by decide +kernel
theorem dX10_pleas_11 : decode cX10_pleas 11 = .ok (.aload_n 0, 1) := by decide +kernel
theorem dX10_pleas_12 : decode cX10_pleas 12 = .ok (.getfield 131, 3) := by decide +kernel
theorem dX10_pleas_15 : decode cX10_pleas 15 = .ok (.if_icmp .le 5, 3) := by decide +kernel
theorem dX10_pleas_18 : decode cX10_pleas 18 = .ok (.iconst (-1), 1) := by decide +kernel
theorem dX10_pleas_19 : decode cX10_pleas 19 = .ok (.ireturn, 1) := by decide +kernel
theorem dX10_pleas_20 : decode cX10_pleas 20 = .ok (.aload_n 0, 1) := by decide +kernel
theorem dX10_pleas_21 : decode cX10_pleas 21 = .ok (.iload_n 1, 1) := by decide +kernel
theorem dX10_pleas_22 : decode cX10_pleas 22 = .ok (.invokevirtual 221, 3) := by decide +kernel
theorem dX10_pleas_25 : decode cX10_pleas 25 = .ok (.aload_n 0, 1) := by decide +kernel
theorem dX10_pleas_26 : decode cX10_pleas 26 = .ok (.iconst 0, 1) := by decide +kernel
theorem dX10_pleas_27 : decode cX10_pleas 27 = .ok (.putfield 274, 3) := by decide +kernel
theorem dX10_pleas_30 : decode cX10_pleas 30 = .ok (.aload_n 0, 1) := by decide +kernel
theorem dX10_pleas_31 : decode cX10_pleas 31 = .ok (.getfield 7, 3) := by decide +kernel
theorem dX10_pleas_34 : decode cX10_pleas 34 = .ok (.aload_n 0, 1) := by decide +kernel
theorem dX10_pleas_35 : decode cX10_pleas 35 = .ok (.getfield 13, 3) := by decide +kernel
theorem dX10_pleas_38 : decode cX10_pleas 38 = .ok (.invokestatic 290, 3) := by decide +kernel
theorem dX10_pleas_41 : decode cX10_pleas 41 = .ok (.iconst 0, 1) := by decide +kernel
theorem dX10_pleas_42 : decode cX10_pleas 42 = .ok (.istore_n 2, 1) := by decide +kernel
theorem dX10_pleas_43 : decode cX10_pleas 43 = .ok (.iload_n 2, 1) := by decide +kernel
theorem dX10_pleas_44 : decode cX10_pleas 44 = .ok (.bipush 16, 2) := by decide +kernel
theorem dX10_pleas_46 : decode cX10_pleas 46 = .ok (.if_icmp .ge 21, 3) := by decide +kernel
theorem dX10_pleas_49 : decode cX10_pleas 49 = .ok (.aload_n 0, 1) := by decide +kernel
theorem dX10_pleas_50 : decode cX10_pleas 50 = .ok (.getfield 83, 3) := by decide +kernel
theorem dX10_pleas_53 : decode cX10_pleas 53 = .ok (.iload_n 2, 1) := by decide +kernel
theorem dX10_pleas_54 : decode cX10_pleas 54 = .ok (.aload_n 0, 1) := by decide +kernel
theorem dX10_pleas_55 : decode cX10_pleas 55 = .ok (.getfield 19, 3) := by decide +kernel
theorem dX10_pleas_58 : decode cX10_pleas 58 = .ok (.iload_n 2, 1) := by decide +kernel
theorem dX10_pleas_59 : decode cX10_pleas 59 = .ok (.iaload, 1) := by decide +kernel
theorem dX10_pleas_60 : decode cX10_pleas 60 = .ok (.iastore, 1) := by decide +kernel
theorem dX10_pleas_61 : decode cX10_pleas 61 = .ok (.iinc 2 1, 3) := by decide +kernel
