theorem dX9_alone_0 : decode cX9_alone 0 = .ok (.aload_n 0, 1) := by decide +kernel
theorem dX9_alone_1 : decode cX9_alone 1 = .ok (.getfield 19, 3) := by decide +kernel
theorem dX9_alone_4 : decode cX9_alone 4 = .ok (.iload_n 1, 1) := by decide +kernel
theorem dX9_alone_5 : decode cX9_alone 5 = .ok (.invokevirtual 108, 3) := by decide +kernel
theorem dX9_alone_8 : decode cX9_alone 8 = .ok (.ifCond .eq 10, 3) := by decide +kernel
theorem dX9_alone_11 : decode cX9_alone 11 = .ok (.iload_n 2, 1) := by decide +kernel
theorem dX9_alone_12 : decode cX9_alone 12 = .ok (.invokestatic 165, 3) := by decide +kernel
theorem dX9_alone_15 : decode cX9_alone 15 = .ok (.ifCond .ne 5, 3) := by decide +kernel
theorem dX9_alone_18 : decode cX9_alone 18 = .ok (.iconst (-1), 1) := by decide +kernel
theorem dX9_alone_19 : decode cX9_alone 19 = .ok (.ireturn, 1) := by decide +kernel
theorem dX9_alone_20 : decode cX9_alone 20 = .ok (.iconst 0, 1) := by decide +kernel
theorem dX9_alone_21 : decode cX9_alone 21 = .ok (.istore_n 3, 1) := by decide +kernel
theorem dX9_alone_22 : decode cX9_alone 22 = .ok (.iconst 0, 1) := by decide +kernel
theorem dX9_alone_23 : decode cX9_alone 23 = .ok (.istore 4, 2) := by decide +kernel
theorem dX9_alone_25 : decode cX9_alone 25 = .ok (.aload_n 0, 1) := by decide +kernel
theorem dX9_alone_26 : decode cX9_alone 26 = .ok (.getfield 30, 3) := by decide +kernel
theorem dX9_alone_29 : decode cX9_alone 29 = .ok (.aload_n 0, 1) := by decide +kernel
theorem dX9_alone_30 : decode cX9_alone 30 = .ok (.getfield 26, 3) := by decide +kernel
theorem dX9_alone_33 : decode cX9_alone 33 = .ok (.invokevirtual 178, 3) := by decide +kernel
theorem dX9_alone_36 : decode cX9_alone 36 = .ok (.iconst 0, 1) := by decide +kernel
theorem dX9_alone_37 : decode cX9_alone 37 = .ok (.istore 5, 2) := by decide +kernel
theorem dX9_alone_39 : decode cX9_alone 39 = .ok (.iload 5, 2) := by decide +kernel
theorem dX9_alone_41 : decode cX9_alone 41 = .ok (.iload_n 2, 1) := by decide +kernel
theorem dX9_alone_42 : decode cX9_alone 42 = .ok (.if_icmp .ge 48, 3) := by decide +kernel
theorem dX9_alone_45 : decode cX9_alone 45 = .ok (.aload_n 0, 1) := by decide +kernel
theorem dX9_alone_46 : decode cX9_alone 46 = .ok (.aload_n 0, 1) := by decide +kernel
theorem dX9_alone_47 : decode cX9_alone 47 = .ok (.getfield 30, 3) := by decide +kernel
theorem dX9_alone_50 : decode cX9_alone 50 = .ok (.invokevirtual 168, 3) := by decide +kernel
theorem dX9_alone_53 : decode cX9_alone 53 = .ok (.ifCond .eq 37, 3) := by decide +kernel
theorem dX9_alone_56 : decode cX9_alone 56 = .ok (.aload_n 0, 1) := by decide +kernel
theorem dX9_alone_57 : decode cX9_alone 57 = .ok (.getfield 30, 3) := by decide +kernel
theorem dX9_alone_60 : decode cX9_alone 60 = .ok (.iload_n 1, 1) := by decide +kernel
theorem dX9_alone_61 : decode cX9_alone 61 = .ok (.invokevirtual 196, 3) := by decide +kernel
theorem dX9_alone_64 : decode cX9_alone 64 = .ok (.ifCond .ne 10, 3) := by decide +kernel
theorem dX9_alone_67 : decode cX9_alone 67 = .ok (.iload 4, 2) := by decide +kernel
theorem dX9_alone_69 : decode cX9_alone 69 = .ok (.iconst 1, 1) := by decide +kernel
theorem dX9_alone_70 : decode cX9_alone 70 = .ok (.iadd, 1) := by decide +kernel
theorem dX9_alone_71 : decode cX9_alone 71 = .ok (.goto 4, 3) := by decide +kernel
theorem dX9_alone_74 : decode cX9_alone 74 = .ok (.iconst 0, 1) := by decide +kernel
theorem dX9_alone_75 : decode cX9_alone 75 = .ok (.istore 4, 2) := by decide +kernel
theorem dX9_alone_77 : decode cX9_alone 77 = .ok (.iload_n 3, 1) := by decide +kernel
theorem dX9_alone_78 : decode cX9_alone 78 = .ok (.iload 4, 2) := by decide +kernel
theorem dX9_alone_80 : decode cX9_alone 80 = .ok (.invokestatic 199, 3) := by decide +kernel
theorem dX9_alone_83 : decode cX9_alone 83 = .ok (.istore_n 3, 1) := by decide +kernel
theorem dX9_alone_84 : decode cX9_alone 84 = .ok (.iinc 5 1, 3) := by decide +kernel
theorem dX9_alone_87 : decode cX9_alone 87 = .ok (.goto (-48), 3) := by decide +kernel
theorem dX9_alone_90 : decode cX9_alone 90 = .ok (.iload_n 3, 1) := by decide +kernel
theorem dX9_alone_91 : decode cX9_alone 91 = .ok (.ireturn, 1) := by decide +kernel
set_option maxRecDepth 20000 in
theorem ggX9_together_X6_isTold : GoodIn wsX9_together wsX6_isTold := goodIn_r _ [8, 9, 10, 11, 12, 13, 14, 15, 160, 161, 162, 163, 164, 165, 166, 167, 168, 169] (by decide +kernel) (by decide +kernel)
set_option maxRecDepth 20000 in
theorem gX9_together_X6_isTold : GoodIn wsX9_together (wsV RX9 195 RX6 yX6_isTold wsX6_isTold) := goodIn_app (goodIn_of _ (by decide +kernel)) ggX9_together_X6_isTold
set_option maxRecDepth 20000 in
theorem ggX9_together_X9_isHours : GoodIn wsX9_together wsX9_isHours := goodIn_r _ [18, 15, 10, 11, 12] (by decide +kernel) (by decide +kernel)
set_option maxRecDepth 20000 in
theorem gX9_together_X9_isHours : GoodIn wsX9_together (va_wsS RX9 165 yX9_isHours wsX9_isHours) := goodIn_app (goodIn_of _ (by decide +kernel)) ggX9_together_X9_isHours
set_option maxRecDepth 20000 in
theorem ggX9_together_X9_at : GoodIn wsX9_together wsX9_at := goodIn_r _ [21] (by decide +kernel) (by decide +kernel)
set_option maxRecDepth 20000 in
theorem gX9_together_X9_at : GoodIn wsX9_together (va_wsS RX9 188 yX9_at wsX9_at) := goodIn_app (goodIn_of _ (by decide +kernel)) ggX9_together_X9_at
set_option maxRecDepth 20000 in
theorem ggX9_together_X6_copy : GoodIn wsX9_together wsX6_copy := goodIn_r _ [25, 26, 27, 28, 29, 30, 9, 31, 32, 33, 34, 20, 11, 21, 35, 36, 160, 161, 162, 163, 164, 165, 166, 167, 168, 169] (by decide +kernel) (by decide +kernel)
set_option maxRecDepth 20000 in
theorem gX9_together_X6_copy : GoodIn wsX9_together (wsV RX9 178 RX6 yX6_copy wsX6_copy) := goodIn_app (goodIn_of _ (by decide +kernel)) ggX9_together_X6_copy
set_option maxRecDepth 20000 in
theorem ggX9_together_X9_passes : GoodIn wsX9_together wsX9_passes := goodIn_r _ [40, 41, 42, 43, 44, 45, 46, 47, 48, 49, 50, 51, 52, 53, 54, 55, 56, 57, 58, 5, 6, 7, 8, 9, 10, 11, 12, 13, 14, 15, 59, 60, 61, 62, 63, 64, 65, 66, 67, 68, 69, 20, 21, 70, 71, 72, 73, 74, 75, 35, 36, 76, 77, 78, 79, 80, 81, 82, 83, 84, 85, 86, 87, 88, 89, 90, 91, 92, 93, 94, 95, 96, 97, 98, 99, 100, 101, 102, 103, 104, 105, 106, 107, 108, 109, 110, 111, 112, 113, 114, 115, 116, 117, 118, 119, 120, 121, 122, 123, 124, 125, 126, 127, 128, 129, 130, 131, 132, 133, 134, 135, 136, 137, 138, 34, 139, 140, 141, 142, 143, 144, 145, 146, 147, 148, 149, 150, 151, 152, 153, 154, 155, 156, 157, 158, 159, 170, 171, 172, 173, 160, 161, 162, 163, 164, 165, 166, 167, 168, 169, 174, 175, 176, 177, 178, 179, 180, 181, 182, 183, 184, 185, 186, 187, 188, 189] (by decide +kernel) (by decide +kernel)
set_option maxRecDepth 20000 in
theorem gX9_together_X9_passes : GoodIn wsX9_together (wsV RX9 168 RX9 yX9_passes wsX9_passes) := goodIn_app (goodIn_of _ (by decide +kernel)) ggX9_together_X9_passes
theorem dX9_together_0 : decode cX9_together 0 = .ok (.aload_n 0, 1) := by decide +kernel
theorem dX9_together_1 : decode cX9_together 1 = .ok (.getfield 26, 3) := by decide +kernel
theorem dX9_together_4 : decode cX9_together 4 = .ok (.iload_n 1, 1) := by decide +kernel
theorem dX9_together_5 : decode cX9_together 5 = .ok (.invokevirtual 195, 3) := by decide +kernel
theorem dX9_together_8 : decode cX9_together 8 = .ok (.ifCond .eq 26, 3) := by decide +kernel
theorem dX9_together_11 : decode cX9_together 11 = .ok (.aload_n 0, 1) := by decide +kernel
theorem dX9_together_12 : decode cX9_together 12 = .ok (.getfield 26, 3) := by decide +kernel
theorem dX9_together_15 : decode cX9_together 15 = .ok (.iload_n 2, 1) := by decide +kernel
theorem dX9_together_16 : decode cX9_together 16 = .ok (.invokevirtual 195, 3) := by decide +kernel
theorem dX9_together_19 : decode cX9_together 19 = .ok (.ifCond .eq 15, 3) := by decide +kernel
theorem dX9_together_22 : decode cX9_together 22 = .ok (.iload_n 1, 1) := by decide +kernel
theorem dX9_together_23 : decode cX9_together 23 = .ok (.iload_n 2, 1) := by decide +kernel
theorem dX9_together_24 : decode cX9_together 24 = .ok (.if_icmp .eq 10, 3) := by decide +kernel
theorem dX9_together_27 : decode cX9_together 27 = .ok (.iload_n 3, 1) := by decide +kernel
theorem dX9_together_28 : decode cX9_together 28 = .ok (.invokestatic 165, 3) := by decide +kernel
theorem dX9_together_31 : decode cX9_together 31 = .ok (.ifCond .ne 5, 3) := by decide +kernel
theorem dX9_together_34 : decode cX9_together 34 = .ok (.iconst (-1), 1) := by decide +kernel
theorem dX9_together_35 : decode cX9_together 35 = .ok (.ireturn, 1) := by decide +kernel
theorem dX9_together_36 : decode cX9_together 36 = .ok (.aload_n 0, 1) := by decide +kernel
theorem dX9_together_37 : decode cX9_together 37 = .ok (.getfield 26, 3) := by decide +kernel
theorem dX9_together_40 : decode cX9_together 40 = .ok (.getfield 115, 3) := by decide +kernel
theorem dX9_together_43 : decode cX9_together 43 = .ok (.iload_n 1, 1) := by decide +kernel
theorem dX9_together_44 : decode cX9_together 44 = .ok (.invokestatic 188, 3) := by decide +kernel
theorem dX9_together_47 : decode cX9_together 47 = .ok (.aload_n 0, 1) := by decide +kernel
theorem dX9_together_48 : decode cX9_together 48 = .ok (.getfield 26, 3) := by decide +kernel
theorem dX9_together_51 : decode cX9_together 51 = .ok (.getfield 115, 3) := by decide +kernel
theorem dX9_together_54 : decode cX9_together 54 = .ok (.iload_n 2, 1) := by decide +kernel
theorem dX9_together_55 : decode cX9_together 55 = .ok (.invokestatic 188, 3) := by decide +kernel
theorem dX9_together_58 : decode cX9_together 58 = .ok (.if_icmp .ne 5, 3) := by decide +kernel
theorem dX9_together_61 : decode cX9_together 61 = .ok (.iconst 0, 1) := by decide +kernel
theorem dX9_together_62 : decode cX9_together 62 = .ok (.ireturn, 1) := by decide +kernel
theorem dX9_together_63 : decode cX9_together 63 = .ok (.aload_n 0, 1) := by decide +kernel
theorem dX9_together_64 : decode cX9_together 64 = .ok (.getfield 30, 3) := by decide +kernel
theorem dX9_together_67 : decode cX9_together 67 = .ok (.aload_n 0, 1) := by decide +kernel
theorem dX9_together_68 : decode cX9_together 68 = .ok (.getfield 26, 3) := by decide +kernel
theorem dX9_together_71 : decode cX9_together 71 = .ok (.invokevirtual 178, 3) := by decide +kernel
theorem dX9_together_74 : decode cX9_together 74 = .ok (.iconst 1, 1) := by decide +kernel
theorem dX9_together_75 : decode cX9_together 75 = .ok (.istore 4, 2) := by decide +kernel
theorem dX9_together_77 : decode cX9_together 77 = .ok (.iload 4, 2) := by decide +kernel
theorem dX9_together_79 : decode cX9_together 79 = .ok (.iload_n 3, 1) := by decide +kernel
theorem dX9_together_80 : decode cX9_together 80 = .ok (.if_icmp .gt 48, 3) := by decide +kernel
theorem dX9_together_83 : decode cX9_together 83 = .ok (.aload_n 0, 1) := by decide +kernel
theorem dX9_together_84 : decode cX9_together 84 = .ok (.aload_n 0, 1) := by decide +kernel
theorem dX9_together_85 : decode cX9_together 85 = .ok (.getfield 30, 3) := by decide +kernel
theorem dX9_together_88 : decode cX9_together 88 = .ok (.invokevirtual 168, 3) := by decide +kernel
theorem dX9_together_91 : decode cX9_together 91 = .ok (.ifCond .eq 37, 3) := by decide +kernel
theorem dX9_together_94 : decode cX9_together 94 = .ok (.aload_n 0, 1) := by decide +kernel
theorem dX9_together_95 : decode cX9_together 95 = .ok (.getfield 30, 3) := by decide +kernel
theorem dX9_together_98 : decode cX9_together 98 = .ok (.getfield 115, 3) := by decide +kernel
theorem dX9_together_101 : decode cX9_together 101 = .ok (.iload_n 1, 1) := by decide +kernel
theorem dX9_together_102 : decode cX9_together 102 = .ok (.invokestatic 188, 3) := by decide +kernel
theorem dX9_together_105 : decode cX9_together 105 = .ok (.aload_n 0, 1) := by decide +kernel
theorem dX9_together_106 : decode cX9_together 106 = .ok (.getfield 30, 3) := by decide +kernel
theorem dX9_together_109 : decode cX9_together 109 = .ok (.getfield 115, 3) := by decide +kernel
theorem dX9_together_112 : decode cX9_together 112 = .ok (.iload_n 2, 1) := by decide +kernel
theorem dX9_together_113 : decode cX9_together 113 = .ok (.invokestatic 188, 3) := by decide +kernel
theorem dX9_together_116 : decode cX9_together 116 = .ok (.if_icmp .ne 6, 3) := by decide +kernel
theorem dX9_together_119 : decode cX9_together 119 = .ok (.iload 4, 2) := by decide +kernel
theorem dX9_together_121 : decode cX9_together 121 = .ok (.ireturn, 1) := by decide +kernel
theorem dX9_together_122 : decode cX9_together 122 = .ok (.iinc 4 1, 3) := by decide +kernel
theorem dX9_together_125 : decode cX9_together 125 = .ok (.goto (-48), 3) := by decide +kernel
theorem dX9_together_128 : decode cX9_together 128 = .ok (.bipush (-2), 2) := by decide +kernel
theorem dX9_together_130 : decode cX9_together 130 = .ok (.ireturn, 1) := by decide +kernel
set_option maxRecDepth 20000 in
theorem ggX9_seen_X9_isHours : GoodIn wsX9_seen wsX9_isHours := goodIn_r _ [6, 7, 8, 5, 9] (by decide +kernel) (by decide +kernel)
set_option maxRecDepth 20000 in
theorem gX9_seen_X9_isHours : GoodIn wsX9_seen (va_wsS RX9 165 yX9_isHours wsX9_isHours) := goodIn_app (goodIn_of _ (by decide +kernel)) ggX9_seen_X9_isHours
set_option maxRecDepth 20000 in
theorem ggX9_seen_X6_copy : GoodIn wsX9_seen wsX6_copy := goodIn_r _ [14, 15, 16, 17, 18, 19, 20, 21, 22, 23, 24, 25, 5, 26, 27, 28, 162, 163, 164, 165, 166, 167, 168, 169, 170, 171] (by decide +kernel) (by decide +kernel)
set_option maxRecDepth 20000 in
theorem gX9_seen_X6_copy : GoodIn wsX9_seen (wsV RX9 178 RX6 yX6_copy wsX6_copy) := goodIn_app (goodIn_of _ (by decide +kernel)) ggX9_seen_X6_copy
set_option maxRecDepth 20000 in
theorem ggX9_seen_X9_passes : GoodIn wsX9_seen wsX9_passes := goodIn_r _ [32, 33, 34, 35, 36, 37, 38, 39, 40, 41, 42, 43, 44, 45, 46, 47, 48, 49, 50, 51, 52, 13, 53, 20, 8, 5, 9, 54, 55, 7, 56, 57, 58, 59, 60, 61, 62, 63, 64, 65, 66, 25, 26, 67, 68, 69, 70, 71, 72, 27, 28, 73, 74, 75, 76, 77, 78, 79, 80, 81, 82, 83, 84, 85, 86, 87, 88, 89, 90, 91, 92, 93, 94, 95, 96, 97, 98, 99, 100, 101, 102, 103, 104, 105, 106, 107, 108, 109, 110, 111, 112, 113, 114, 115, 116, 117, 118, 119, 120, 121, 122, 123, 124, 125, 126, 127, 128, 129, 130, 131, 132, 133, 134, 135, 24, 136, 137, 138, 139, 140, 141, 147, 148, 149, 150, 151, 152, 153, 154, 155, 156, 157, 158, 159, 160, 161, 172, 173, 174, 175, 162, 163, 164, 165, 166, 167, 168, 169, 170, 171, 176, 177, 178, 179, 180, 181, 182, 183, 184, 185, 186, 187, 188, 189, 190, 191] (by decide +kernel) (by decide +kernel)
set_option maxRecDepth 20000 in
theorem gX9_seen_X9_passes : GoodIn wsX9_seen (wsV RX9 168 RX9 yX9_passes wsX9_passes) := goodIn_app (goodIn_of _ (by decide +kernel)) ggX9_seen_X9_passes
set_option maxRecDepth 20000 in
theorem ggX9_seen_X6_stoodAt : GoodIn wsX9_seen wsX6_stoodAt := goodIn_r _ [145, 18, 146, 51, 52, 13, 53, 20, 8, 5, 9, 54, 55, 7, 25, 26, 162, 163, 164, 165, 166, 167, 168, 169, 170, 171] (by decide +kernel) (by decide +kernel)
set_option maxRecDepth 20000 in
theorem gX9_seen_X6_stoodAt : GoodIn wsX9_seen (wsV RX9 205 RX6 yX6_stoodAt wsX6_stoodAt) := goodIn_app (goodIn_of _ (by decide +kernel)) ggX9_seen_X6_stoodAt
theorem dX9_seen_0 : decode cX9_seen 0 = .ok (.iload_n 1, 1) := by decide +kernel
theorem dX9_seen_1 : decode cX9_seen 1 = .ok (.invokestatic 165, 3) := by decide +kernel
theorem dX9_seen_4 : decode cX9_seen 4 = .ok (.ifCond .ne 5, 3) := by decide +kernel
theorem dX9_seen_7 : decode cX9_seen 7 = .ok (.iconst (-1), 1) := by decide +kernel
theorem dX9_seen_8 : decode cX9_seen 8 = .ok (.ireturn, 1) := by decide +kernel
theorem dX9_seen_9 : decode cX9_seen 9 = .ok (.iconst 0, 1) := by decide +kernel
theorem dX9_seen_10 : decode cX9_seen 10 = .ok (.istore_n 2, 1) := by decide +kernel
theorem dX9_seen_11 : decode cX9_seen 11 = .ok (.aload_n 0, 1) := by decide +kernel
theorem dX9_seen_12 : decode cX9_seen 12 = .ok (.getfield 30, 3) := by decide +kernel
theorem dX9_seen_15 : decode cX9_seen 15 = .ok (.aload_n 0, 1) := by decide +kernel
theorem dX9_seen_16 : decode cX9_seen 16 = .ok (.getfield 26, 3) := by decide +kernel
theorem dX9_seen_19 : decode cX9_seen 19 = .ok (.invokevirtual 178, 3) := by decide +kernel
theorem dX9_seen_22 : decode cX9_seen 22 = .ok (.iconst 0, 1) := by decide +kernel
theorem dX9_seen_23 : decode cX9_seen 23 = .ok (.istore_n 3, 1) := by decide +kernel
theorem dX9_seen_24 : decode cX9_seen 24 = .ok (.iload_n 3, 1) := by decide +kernel
theorem dX9_seen_25 : decode cX9_seen 25 = .ok (.iload_n 1, 1) := by decide +kernel
theorem dX9_seen_26 : decode cX9_seen 26 = .ok (.if_icmp .ge 30, 3) := by decide +kernel
theorem dX9_seen_29 : decode cX9_seen 29 = .ok (.aload_n 0, 1) := by decide +kernel
theorem dX9_seen_30 : decode cX9_seen 30 = .ok (.aload_n 0, 1) := by decide +kernel
theorem dX9_seen_31 : decode cX9_seen 31 = .ok (.getfield 30, 3) := by decide +kernel
theorem dX9_seen_34 : decode cX9_seen 34 = .ok (.invokevirtual 168, 3) := by decide +kernel
theorem dX9_seen_37 : decode cX9_seen 37 = .ok (.ifCond .eq 19, 3) := by decide +kernel
theorem dX9_seen_40 : decode cX9_seen 40 = .ok (.iload_n 2, 1) := by decide +kernel
theorem dX9_seen_41 : decode cX9_seen 41 = .ok (.aload_n 0, 1) := by decide +kernel
theorem dX9_seen_42 : decode cX9_seen 42 = .ok (.getfield 30, 3) := by decide +kernel
theorem dX9_seen_45 : decode cX9_seen 45 = .ok (.invokevirtual 205, 3) := by decide +kernel
theorem dX9_seen_48 : decode cX9_seen 48 = .ok (.ior, 1) := by decide +kernel
theorem dX9_seen_49 : decode cX9_seen 49 = .ok (.istore_n 2, 1) := by decide +kernel
theorem dX9_seen_50 : decode cX9_seen 50 = .ok (.iinc 3 1, 3) := by decide +kernel
theorem dX9_seen_53 : decode cX9_seen 53 = .ok (.goto (-29), 3) := by decide +kernel
theorem dX9_seen_56 : decode cX9_seen 56 = .ok (.iload_n 2, 1) := by decide +kernel
theorem dX9_seen_57 : decode cX9_seen 57 = .ok (.ireturn, 1) := by decide +kernel
set_option maxRecDepth 20000 in
theorem ggX9_quiet_X9_isHours : GoodIn wsX9_quiet wsX9_isHours := goodIn_r _ [12, 13, 14, 11, 15] (by decide +kernel) (by decide +kernel)
set_option maxRecDepth 20000 in
theorem gX9_quiet_X9_isHours : GoodIn wsX9_quiet (va_wsS RX9 165 yX9_isHours wsX9_isHours) := goodIn_app (goodIn_of _ (by decide +kernel)) ggX9_quiet_X9_isHours
set_option maxRecDepth 20000 in
theorem ggX9_quiet_X6_copy : GoodIn wsX9_quiet wsX6_copy := goodIn_r _ [20, 21, 22, 23, 24, 25, 26, 27, 28, 29, 30, 31, 11, 32, 33, 34, 162, 163, 164, 165, 166, 167, 168, 169, 170, 171] (by decide +kernel) (by decide +kernel)
set_option maxRecDepth 20000 in
theorem gX9_quiet_X6_copy : GoodIn wsX9_quiet (wsV RX9 178 RX6 yX6_copy wsX6_copy) := goodIn_app (goodIn_of _ (by decide +kernel)) ggX9_quiet_X6_copy
set_option maxRecDepth 20000 in
theorem ggX9_quiet_X9_passes : GoodIn wsX9_quiet wsX9_passes := goodIn_r _ [38, 3, 39, 40, 41, 42, 43, 44, 45, 46, 47, 48, 49, 50, 51, 52, 53, 54, 55, 56, 57, 19, 58, 26, 14, 11, 15, 59, 60, 13, 61, 62, 63, 64, 65, 66, 67, 68, 69, 70, 71, 31, 32, 72, 73, 74, 75, 76, 77, 33, 34, 78, 79, 80, 81, 82, 83, 84, 85, 7, 86, 87, 88, 89, 90, 91, 92, 93, 94, 95, 96, 97, 98, 99, 100, 101, 102, 103, 104, 105, 106, 107, 108, 109, 110, 111, 112, 113, 114, 115, 116, 117, 118, 119, 120, 121, 122, 123, 124, 125, 126, 127, 128, 129, 130, 131, 132, 5, 6, 8, 133, 134, 135, 136, 30, 137, 138, 139, 140, 141, 142, 143, 144, 145, 146, 147, 148, 149, 150, 151, 152, 153, 154, 155, 156, 157, 158, 159, 160, 161, 162, 163, 164, 165, 166, 167, 168, 169, 170, 171, 172, 173, 174, 175, 176, 177, 178, 179, 180, 181, 182, 183, 184, 185, 186, 187] (by decide +kernel) (by decide +kernel)
set_option maxRecDepth 20000 in
theorem gX9_quiet_X9_passes : GoodIn wsX9_quiet (wsV RX9 168 RX9 yX9_passes wsX9_passes) := goodIn_app (goodIn_of _ (by decide +kernel)) ggX9_quiet_X9_passes
theorem dX9_quiet_0 : decode cX9_quiet 0 = .ok (.iload_n 1, 1) := by decide +kernel
theorem dX9_quiet_1 : decode cX9_quiet 1 = .ok (.invokestatic 165, 3) := by decide +kernel
theorem dX9_quiet_4 : decode cX9_quiet 4 = .ok (.ifCond .ne 5, 3) := by decide +kernel
theorem dX9_quiet_7 : decode cX9_quiet 7 = .ok (.iconst (-1), 1) := by decide +kernel
theorem dX9_quiet_8 : decode cX9_quiet 8 = .ok (.ireturn, 1) := by decide +kernel
theorem dX9_quiet_9 : decode cX9_quiet 9 = .ok (.iconst 0, 1) := by decide +kernel
theorem dX9_quiet_10 : decode cX9_quiet 10 = .ok (.istore_n 2, 1) := by decide +kernel
theorem dX9_quiet_11 : decode cX9_quiet 11 = .ok (.iconst 0, 1) := by decide +kernel
theorem dX9_quiet_12 : decode cX9_quiet 12 = .ok (.istore_n 3, 1) := by decide +kernel
theorem dX9_quiet_13 : decode cX9_quiet 13 = .ok (.aload_n 0, 1) := by decide +kernel
theorem dX9_quiet_14 : decode cX9_quiet 14 = .ok (.getfield 30, 3) := by decide +kernel
theorem dX9_quiet_17 : decode cX9_quiet 17 = .ok (.aload_n 0, 1) := by decide +kernel
theorem dX9_quiet_18 : decode cX9_quiet 18 = .ok (.getfield 26, 3) := by decide +kernel
theorem dX9_quiet_21 : decode cX9_quiet 21 = .ok (.invokevirtual 178, 3) := by decide +kernel
theorem dX9_quiet_24 : decode cX9_quiet 24 = .ok (.iconst 0, 1) := by decide +kernel
theorem dX9_quiet_25 : decode cX9_quiet 25 = .ok (.istore 4, 2) := by decide +kernel
theorem dX9_quiet_27 : decode cX9_quiet 27 = .ok (.iload 4, 2) := by decide +kernel
theorem dX9_quiet_29 : decode cX9_quiet 29 = .ok (.iload_n 1, 1) := by decide +kernel
theorem dX9_quiet_30 : decode cX9_quiet 30 = .ok (.if_icmp .ge 44, 3) := by decide +kernel
theorem dX9_quiet_33 : decode cX9_quiet 33 = .ok (.aload_n 0, 1) := by decide +kernel
theorem dX9_quiet_34 : decode cX9_quiet 34 = .ok (.aload_n 0, 1) := by decide +kernel
theorem dX9_quiet_35 : decode cX9_quiet 35 = .ok (.getfield 30, 3) := by decide +kernel
theorem dX9_quiet_38 : decode cX9_quiet 38 = .ok (.invokevirtual 168, 3) := by decide +kernel
theorem dX9_quiet_41 : decode cX9_quiet 41 = .ok (.ifCond .eq 33, 3) := by decide +kernel
theorem dX9_quiet_44 : decode cX9_quiet 44 = .ok (.aload_n 0, 1) := by decide +kernel
theorem dX9_quiet_45 : decode cX9_quiet 45 = .ok (.getfield 45, 3) := by decide +kernel
theorem dX9_quiet_48 : decode cX9_quiet 48 = .ok (.getfield 172, 3) := by decide +kernel
theorem dX9_quiet_51 : decode cX9_quiet 51 = .ok (.ifCond .ne 9, 3) := by decide +kernel
theorem dX9_quiet_54 : decode cX9_quiet 54 = .ok (.iload_n 3, 1) := by decide +kernel
theorem dX9_quiet_55 : decode cX9_quiet 55 = .ok (.iconst 1, 1) := by decide +kernel
theorem dX9_quiet_56 : decode cX9_quiet 56 = .ok (.iadd, 1) := by decide +kernel
theorem dX9_quiet_57 : decode cX9_quiet 57 = .ok (.goto 4, 3) := by decide +kernel
theorem dX9_quiet_60 : decode cX9_quiet 60 = .ok (.iconst 0, 1) := by decide +kernel
theorem dX9_quiet_61 : decode cX9_quiet 61 = .ok (.istore_n 3, 1) := by decide +kernel
theorem dX9_quiet_62 : decode cX9_quiet 62 = .ok (.iload_n 2, 1) := by decide +kernel
theorem dX9_quiet_63 : decode cX9_quiet 63 = .ok (.iload_n 3, 1) := by decide +kernel
theorem dX9_quiet_64 : decode cX9_quiet 64 = .ok (.invokestatic 199, 3) := by decide +kernel
theorem dX9_quiet_67 : decode cX9_quiet 67 = .ok (.istore_n 2, 1) := by decide +kernel
theorem dX9_quiet_68 : decode cX9_quiet 68 = .ok (.iinc 4 1, 3) := by decide +kernel
theorem dX9_quiet_71 : decode cX9_quiet 71 = .ok (.goto (-44), 3) := by decide +kernel
theorem dX9_quiet_74 : decode cX9_quiet 74 = .ok (.iload_n 2, 1) := by decide +kernel
theorem dX9_quiet_75 : decode cX9_quiet 75 = .ok (.ireturn, 1) := by decide +kernel
set_option maxRecDepth 20000 in
theorem ggX9_isHours_X9_within : GoodIn wsX9_isHours wsX9_within := goodIn_r _ [4] (by decide +kernel) (by decide +kernel)
set_option maxRecDepth 20000 in
theorem gX9_isHours_X9_within : GoodIn wsX9_isHours (va_wsS RX9 90 yX9_within wsX9_within) := goodIn_app (goodIn_of _ (by decide +kernel)) ggX9_isHours_X9_within
theorem dX9_isHours_0 : decode cX9_isHours 0 = .ok (.iload_n 0, 1) := by decide +kernel
theorem dX9_isHours_1 : decode cX9_isHours 1 = .ok (.iconst 1, 1) := by decide +kernel
theorem dX9_isHours_2 : decode cX9_isHours 2 = .ok (.sipush 240, 3) := by decide +kernel
theorem dX9_isHours_5 : decode cX9_isHours 5 = .ok (.invokestatic 90, 3) := by decide +kernel
theorem dX9_isHours_8 : decode cX9_isHours 8 = .ok (.ireturn, 1) := by decide +kernel
set_option maxRecDepth 20000 in
theorem ggX9_passes_X5_passes : GoodIn wsX9_passes wsX5_passes := goodIn_r _ [9, 10, 11, 12, 13, 14, 15, 8, 16, 17, 18, 19, 20, 21, 22, 23, 24, 25, 26, 27, 28, 29, 30, 31, 32, 33, 34, 35, 36, 37, 38, 39, 40, 41, 42, 43, 44, 45, 46, 47, 48, 49, 50, 51, 52, 53, 54, 55, 56, 57, 58, 59, 60, 61, 62, 63, 64, 65, 66, 67, 68, 69, 70, 71, 72, 73, 74, 75, 76, 77, 78, 79, 80, 81, 82, 83, 84, 85, 86, 87, 88, 89, 90, 91, 92, 93, 94, 95, 96, 97, 98, 99, 100, 101, 102, 103, 104, 105, 106, 107, 108, 109, 110, 111, 112, 113, 114, 115, 116, 117, 118, 119, 120, 136, 137, 138, 139, 140, 141, 142, 143, 144, 145, 146, 147, 148, 149, 150, 151, 152, 153, 154, 155, 156, 157, 158, 159, 160, 161, 162, 163, 164, 165] (by decide +kernel) (by decide +kernel)
set_option maxRecDepth 20000 in
theorem gX9_passes_X5_passes : GoodIn wsX9_passes (wsV RX9 209 RX5 yX5_passes wsX5_passes) := goodIn_app (goodIn_of _ (by decide +kernel)) ggX9_passes_X5_passes
theorem dX9_passes_0 : decode cX9_passes 0 = .ok (.aload_n 0, 1) := by decide +kernel
theorem dX9_passes_1 : decode cX9_passes 1 = .ok (.getfield 45, 3) := by decide +kernel
theorem dX9_passes_4 : decode cX9_passes 4 = .ok (.aload_n 1, 1) := by decide +kernel
theorem dX9_passes_5 : decode cX9_passes 5 = .ok (.aload_n 0, 1) := by decide +kernel
theorem dX9_passes_6 : decode cX9_passes 6 = .ok (.getfield 75, 3) := by decide +kernel
theorem dX9_passes_9 : decode cX9_passes 9 = .ok (.aload_n 0, 1) := by decide +kernel
theorem dX9_passes_10 : decode cX9_passes 10 = .ok (.getfield 19, 3) := by decide +kernel
theorem dX9_passes_13 : decode cX9_passes 13 = .ok (.aload_n 0, 1) := by decide +kernel
theorem dX9_passes_14 : decode cX9_passes 14 = .ok (.getfield 38, 3) := by decide +kernel
theorem dX9_passes_17 : decode cX9_passes 17 = .ok (.invokevirtual 209, 3) := by decide +kernel
theorem dX9_passes_20 : decode cX9_passes 20 = .ok (.ireturn, 1) := by decide +kernel
set_option maxRecDepth 20000 in
theorem ggX9_placeIs_X1_isTold : GoodIn wsX9_placeIs wsX1_isTold := goodIn_r _ [11, 12, 13, 14, 15, 16, 17, 18, 58, 59, 60, 61] (by decide +kernel) (by decide +kernel)
set_option maxRecDepth 20000 in
theorem gX9_placeIs_X1_isTold : GoodIn wsX9_placeIs (wsV RX9 108 RX1 yX1_isTold wsX1_isTold) := goodIn_app (goodIn_of _ (by decide +kernel)) ggX9_placeIs_X1_isTold
set_option maxRecDepth 20000 in
theorem ggX9_placeIs_X9_at : GoodIn wsX9_placeIs wsX9_at := goodIn_r _ [21] (by decide +kernel) (by decide +kernel)
set_option maxRecDepth 20000 in
theorem gX9_placeIs_X9_at : GoodIn wsX9_placeIs (va_wsS RX9 188 yX9_at wsX9_at) := goodIn_app (goodIn_of _ (by decide +kernel)) ggX9_placeIs_X9_at
set_option maxRecDepth 20000 in
theorem ggX9_placeIs_X6_standAt : GoodIn wsX9_placeIs wsX6_standAt := goodIn_r _ [26, 27, 28, 29, 30, 25, 31, 32, 13, 14, 15, 16, 17, 18, 20, 21, 48, 49, 50, 51, 52, 53, 54, 55, 56, 57] (by decide +kernel) (by decide +kernel)
set_option maxRecDepth 20000 in
theorem gX9_placeIs_X6_standAt : GoodIn wsX9_placeIs (wsV RX9 196 RX6 yX6_standAt wsX6_standAt) := goodIn_app (goodIn_of _ (by decide +kernel)) ggX9_placeIs_X6_standAt
theorem dX9_placeIs_0 : decode cX9_placeIs 0 = .ok (.aload_n 0, 1) := by decide +kernel
theorem dX9_placeIs_1 : decode cX9_placeIs 1 = .ok (.getfield 19, 3) := by decide +kernel
theorem dX9_placeIs_4 : decode cX9_placeIs 4 = .ok (.iload_n 1, 1) := by decide +kernel
theorem dX9_placeIs_5 : decode cX9_placeIs 5 = .ok (.invokevirtual 108, 3) := by decide +kernel
theorem dX9_placeIs_8 : decode cX9_placeIs 8 = .ok (.ifCond .ne 5, 3) := by decide +kernel
theorem dX9_placeIs_11 : decode cX9_placeIs 11 = .ok (.iconst (-1), 1) := by decide +kernel
theorem dX9_placeIs_12 : decode cX9_placeIs 12 = .ok (.ireturn, 1) := by decide +kernel
theorem dX9_placeIs_13 : decode cX9_placeIs 13 = .ok (.iload_n 2, 1) := by decide +kernel
theorem dX9_placeIs_14 : decode cX9_placeIs 14 = .ok (.tableswitch 91 0 4 #[34, 46, 58, 70, 79], 34) := by decide +kernel
theorem dX9_placeIs_48 : decode cX9_placeIs 48 = .ok (.aload_n 0, 1) := by decide +kernel
theorem dX9_placeIs_49 : decode cX9_placeIs 49 = .ok (.getfield 26, 3) := by decide +kernel
theorem dX9_placeIs_52 : decode cX9_placeIs 52 = .ok (.getfield 98, 3) := by decide +kernel
theorem dX9_placeIs_55 : decode cX9_placeIs 55 = .ok (.iload_n 1, 1) := by decide +kernel
theorem dX9_placeIs_56 : decode cX9_placeIs 56 = .ok (.invokestatic 188, 3) := by decide +kernel
theorem dX9_placeIs_59 : decode cX9_placeIs 59 = .ok (.ireturn, 1) := by decide +kernel
theorem dX9_placeIs_60 : decode cX9_placeIs 60 = .ok (.aload_n 0, 1) := by decide +kernel
theorem dX9_placeIs_61 : decode cX9_placeIs 61 = .ok (.getfield 26, 3) := by decide +kernel
theorem dX9_placeIs_64 : decode cX9_placeIs 64 = .ok (.getfield 105, 3) := by decide +kernel
theorem dX9_placeIs_67 : decode cX9_placeIs 67 = .ok (.iload_n 1, 1) := by decide +kernel
theorem dX9_placeIs_68 : decode cX9_placeIs 68 = .ok (.invokestatic 188, 3) := by decide +kernel
theorem dX9_placeIs_71 : decode cX9_placeIs 71 = .ok (.ireturn, 1) := by decide +kernel
theorem dX9_placeIs_72 : decode cX9_placeIs 72 = .ok (.aload_n 0, 1) := by decide +kernel
theorem dX9_placeIs_73 : decode cX9_placeIs 73 = .ok (.getfield 26, 3) := by decide +kernel
theorem dX9_placeIs_76 : decode cX9_placeIs 76 = .ok (.getfield 192, 3) := by decide +kernel
theorem dX9_placeIs_79 : decode cX9_placeIs 79 = .ok (.iload_n 1, 1) := by decide +kernel
theorem dX9_placeIs_80 : decode cX9_placeIs 80 = .ok (.invokestatic 188, 3) := by decide +kernel
theorem dX9_placeIs_83 : decode cX9_placeIs 83 = .ok (.ireturn, 1) := by decide +kernel
theorem dX9_placeIs_84 : decode cX9_placeIs 84 = .ok (.aload_n 0, 1) := by decide +kernel
theorem dX9_placeIs_85 : decode cX9_placeIs 85 = .ok (.getfield 26, 3) := by decide +kernel
theorem dX9_placeIs_88 : decode cX9_placeIs 88 = .ok (.iload_n 1, 1) := by decide +kernel
theorem dX9_placeIs_89 : decode cX9_placeIs 89 = .ok (.invokevirtual 196, 3) := by decide +kernel
theorem dX9_placeIs_92 : decode cX9_placeIs 92 = .ok (.ireturn, 1) := by decide +kernel
theorem dX9_placeIs_93 : decode cX9_placeIs 93 = .ok (.aload_n 0, 1) := by decide +kernel
theorem dX9_placeIs_94 : decode cX9_placeIs 94 = .ok (.getfield 19, 3) := by decide +kernel
theorem dX9_placeIs_97 : decode cX9_placeIs 97 = .ok (.getfield 212, 3) := by decide +kernel
theorem dX9_placeIs_100 : decode cX9_placeIs 100 = .ok (.iload_n 1, 1) := by decide +kernel
theorem dX9_placeIs_101 : decode cX9_placeIs 101 = .ok (.invokestatic 188, 3) := by decide +kernel
theorem dX9_placeIs_104 : decode cX9_placeIs 104 = .ok (.ireturn, 1) := by decide +kernel
theorem dX9_placeIs_105 : decode cX9_placeIs 105 = .ok (.iconst (-1), 1) := by decide +kernel
theorem dX9_placeIs_106 : decode cX9_placeIs 106 = .ok (.ireturn, 1) := by decide +kernel
set_option maxRecDepth 20000 in
theorem ggX9_constableIs_X6_isTold : GoodIn wsX9_constableIs wsX6_isTold := goodIn_r _ [10, 11, 12, 13, 14, 15, 16, 17, 36, 37, 38, 39, 40, 41, 42, 43, 44, 45] (by decide +kernel) (by decide +kernel)
set_option maxRecDepth 20000 in
theorem gX9_constableIs_X6_isTold : GoodIn wsX9_constableIs (wsV RX9 195 RX6 yX6_isTold wsX6_isTold) := goodIn_app (goodIn_of _ (by decide +kernel)) ggX9_constableIs_X6_isTold
set_option maxRecDepth 20000 in
theorem ggX9_constableIs_X9_within : GoodIn wsX9_constableIs wsX9_within := goodIn_r _ [14] (by decide +kernel) (by decide +kernel)
set_option maxRecDepth 20000 in
theorem gX9_constableIs_X9_within : GoodIn wsX9_constableIs (va_wsS RX9 90 yX9_within wsX9_within) := goodIn_app (goodIn_of _ (by decide +kernel)) ggX9_constableIs_X9_within
set_option maxRecDepth 20000 in
theorem ggX9_constableIs_X9_at : GoodIn wsX9_constableIs wsX9_at := goodIn_r _ [20] (by decide +kernel) (by decide +kernel)
set_option maxRecDepth 20000 in
theorem gX9_constableIs_X9_at : GoodIn wsX9_constableIs (va_wsS RX9 188 yX9_at wsX9_at) := goodIn_app (goodIn_of _ (by decide +kernel)) ggX9_constableIs_X9_at
theorem dX9_constableIs_0 : decode cX9_constableIs 0 = .ok (.aload_n 0, 1) := by decide +kernel
theorem dX9_constableIs_1 : decode cX9_constableIs 1 = .ok (.getfield 26, 3) := by decide +kernel
theorem dX9_constableIs_4 : decode cX9_constableIs 4 = .ok (.iload_n 1, 1) := by decide +kernel
theorem dX9_constableIs_5 : decode cX9_constableIs 5 = .ok (.invokevirtual 195, 3) := by decide +kernel
theorem dX9_constableIs_8 : decode cX9_constableIs 8 = .ok (.ifCond .eq 18, 3) := by decide +kernel
theorem dX9_constableIs_11 : decode cX9_constableIs 11 = .ok (.iload_n 1, 1) := by decide +kernel
theorem dX9_constableIs_12 : decode cX9_constableIs 12 = .ok (.iconst 0, 1) := by decide +kernel
theorem dX9_constableIs_13 : decode cX9_constableIs 13 = .ok (.aload_n 0, 1) := by decide +kernel
theorem dX9_constableIs_14 : decode cX9_constableIs 14 = .ok (.getfield 38, 3) := by decide +kernel
theorem dX9_constableIs_17 : decode cX9_constableIs 17 = .ok (.arraylength, 1) := by decide +kernel
theorem dX9_constableIs_18 : decode cX9_constableIs 18 = .ok (.iconst 1, 1) := by decide +kernel
theorem dX9_constableIs_19 : decode cX9_constableIs 19 = .ok (.isub, 1) := by decide +kernel
theorem dX9_constableIs_20 : decode cX9_constableIs 20 = .ok (.invokestatic 90, 3) := by decide +kernel
theorem dX9_constableIs_23 : decode cX9_constableIs 23 = .ok (.ifCond .ne 5, 3) := by decide +kernel
theorem dX9_constableIs_26 : decode cX9_constableIs 26 = .ok (.iconst (-1), 1) := by decide +kernel
theorem dX9_constableIs_27 : decode cX9_constableIs 27 = .ok (.ireturn, 1) := by decide +kernel
theorem dX9_constableIs_28 : decode cX9_constableIs 28 = .ok (.iload_n 2, 1) := by decide +kernel
theorem dX9_constableIs_29 : decode cX9_constableIs 29 = .ok (.tableswitch 74 0 2 #[27, 39, 51], 27) := by decide +kernel
theorem dX9_constableIs_56 : decode cX9_constableIs 56 = .ok (.aload_n 0, 1) := by decide +kernel
theorem dX9_constableIs_57 : decode cX9_constableIs 57 = .ok (.getfield 26, 3) := by decide +kernel
theorem dX9_constableIs_60 : decode cX9_constableIs 60 = .ok (.getfield 115, 3) := by decide +kernel
theorem dX9_constableIs_63 : decode cX9_constableIs 63 = .ok (.iload_n 1, 1) := by decide +kernel
theorem dX9_constableIs_64 : decode cX9_constableIs 64 = .ok (.invokestatic 188, 3) := by decide +kernel
theorem dX9_constableIs_67 : decode cX9_constableIs 67 = .ok (.ireturn, 1) := by decide +kernel
theorem dX9_constableIs_68 : decode cX9_constableIs 68 = .ok (.aload_n 0, 1) := by decide +kernel
theorem dX9_constableIs_69 : decode cX9_constableIs 69 = .ok (.getfield 26, 3) := by decide +kernel
theorem dX9_constableIs_72 : decode cX9_constableIs 72 = .ok (.getfield 118, 3) := by decide +kernel
theorem dX9_constableIs_75 : decode cX9_constableIs 75 = .ok (.iload_n 1, 1) := by decide +kernel
theorem dX9_constableIs_76 : decode cX9_constableIs 76 = .ok (.invokestatic 188, 3) := by decide +kernel
theorem dX9_constableIs_79 : decode cX9_constableIs 79 = .ok (.ireturn, 1) := by decide +kernel
theorem dX9_constableIs_80 : decode cX9_constableIs 80 = .ok (.aload_n 0, 1) := by decide +kernel
theorem dX9_constableIs_81 : decode cX9_constableIs 81 = .ok (.getfield 38, 3) := by decide +kernel
theorem dX9_constableIs_84 : decode cX9_constableIs 84 = .ok (.iload_n 1, 1) := by decide +kernel
theorem dX9_constableIs_85 : decode cX9_constableIs 85 = .ok (.aaload, 1) := by decide +kernel
theorem dX9_constableIs_86 : decode cX9_constableIs 86 = .ok (.ifnonnull 7, 3) := by decide +kernel
theorem dX9_constableIs_89 : decode cX9_constableIs 89 = .ok (.iconst 0, 1) := by decide +kernel
theorem dX9_constableIs_90 : decode cX9_constableIs 90 = .ok (.goto 12, 3) := by decide +kernel
theorem dX9_constableIs_93 : decode cX9_constableIs 93 = .ok (.aload_n 0, 1) := by decide +kernel
theorem dX9_constableIs_94 : decode cX9_constableIs 94 = .ok (.getfield 38, 3) := by decide +kernel
theorem dX9_constableIs_97 : decode cX9_constableIs 97 = .ok (.iload_n 1, 1) := by decide +kernel
theorem dX9_constableIs_98 : decode cX9_constableIs 98 = .ok (.aaload, 1) := by decide +kernel
theorem dX9_constableIs_99 : decode cX9_constableIs 99 = .ok (.getfield 154, 3) := by decide +kernel
theorem dX9_constableIs_102 : decode cX9_constableIs 102 = .ok (.ireturn, 1) := by decide +kernel
theorem dX9_constableIs_103 : decode cX9_constableIs 103 = .ok (.iconst (-1), 1) := by decide +kernel
theorem dX9_constableIs_104 : decode cX9_constableIs 104 = .ok (.ireturn, 1) := by decide +kernel
set_option maxRecDepth 20000 in
theorem ggX9_count_X6_wages : GoodIn wsX9_count wsX6_wages := goodIn_r _ [17, 18, 19, 20, 21, 22, 23, 24, 25, 26, 27, 28, 44, 45, 46, 47, 48, 49, 50, 51, 52, 53] (by decide +kernel) (by decide +kernel)
set_option maxRecDepth 20000 in
theorem gX9_count_X6_wages : GoodIn wsX9_count (wsV RX9 221 RX6 yX6_wages wsX6_wages) := goodIn_app (goodIn_of _ (by decide +kernel)) ggX9_count_X6_wages
theorem dX9_count_0 : decode cX9_count 0 = .ok (.iload_n 1, 1) := by decide +kernel
theorem dX9_count_1 : decode cX9_count 1 = .ok (.tableswitch 123 0 8 #[51, 59, 67, 75, 83, 91, 99, 107, 115], 51) := by decide +kernel
theorem dX9_count_52 : decode cX9_count 52 = .ok (.aload_n 0, 1) := by decide +kernel
theorem dX9_count_53 : decode cX9_count 53 = .ok (.getfield 26, 3) := by decide +kernel
theorem dX9_count_56 : decode cX9_count 56 = .ok (.getfield 215, 3) := by decide +kernel
theorem dX9_count_59 : decode cX9_count 59 = .ok (.ireturn, 1) := by decide +kernel
theorem dX9_count_60 : decode cX9_count 60 = .ok (.aload_n 0, 1) := by decide +kernel
theorem dX9_count_61 : decode cX9_count 61 = .ok (.getfield 26, 3) := by decide +kernel
theorem dX9_count_64 : decode cX9_count 64 = .ok (.getfield 218, 3) := by decide +kernel
theorem dX9_count_67 : decode cX9_count 67 = .ok (.ireturn, 1) := by decide +kernel
theorem dX9_count_68 : decode cX9_count 68 = .ok (.aload_n 0, 1) := by decide +kernel
theorem dX9_count_69 : decode cX9_count 69 = .ok (.getfield 26, 3) := by decide +kernel
theorem dX9_count_72 : decode cX9_count 72 = .ok (.getfield 185, 3) := by decide +kernel
theorem dX9_count_75 : decode cX9_count 75 = .ok (.ireturn, 1) := by decide +kernel
theorem dX9_count_76 : decode cX9_count 76 = .ok (.aload_n 0, 1) := by decide +kernel
theorem dX9_count_77 : decode cX9_count 77 = .ok (.getfield 19, 3) := by decide +kernel
theorem dX9_count_80 : decode cX9_count 80 = .ok (.getfield 94, 3) := by decide +kernel
theorem dX9_count_83 : decode cX9_count 83 = .ok (.ireturn, 1) := by decide +kernel
theorem dX9_count_84 : decode cX9_count 84 = .ok (.aload_n 0, 1) := by decide +kernel
theorem dX9_count_85 : decode cX9_count 85 = .ok (.getfield 26, 3) := by decide +kernel
theorem dX9_count_88 : decode cX9_count 88 = .ok (.getfield 112, 3) := by decide +kernel
theorem dX9_count_91 : decode cX9_count 91 = .ok (.ireturn, 1) := by decide +kernel
theorem dX9_count_92 : decode cX9_count 92 = .ok (.aload_n 0, 1) := by decide +kernel
theorem dX9_count_93 : decode cX9_count 93 = .ok (.getfield 26, 3) := by decide +kernel
theorem dX9_count_96 : decode cX9_count 96 = .ok (.invokevirtual 221, 3) := by decide +kernel
theorem dX9_count_99 : decode cX9_count 99 = .ok (.ireturn, 1) := by decide +kernel
theorem dX9_count_100 : decode cX9_count 100 = .ok (.aload_n 0, 1) := by decide +kernel
theorem dX9_count_101 : decode cX9_count 101 = .ok (.getfield 75, 3) := by decide +kernel
theorem dX9_count_104 : decode cX9_count 104 = .ok (.getfield 146, 3) := by decide +kernel
theorem dX9_count_107 : decode cX9_count 107 = .ok (.ireturn, 1) := by decide +kernel
theorem dX9_count_108 : decode cX9_count 108 = .ok (.aload_n 0, 1) := by decide +kernel
theorem dX9_count_109 : decode cX9_count 109 = .ok (.getfield 10, 3) := by decide +kernel
theorem dX9_count_112 : decode cX9_count 112 = .ok (.getfield 125, 3) := by decide +kernel
theorem dX9_count_115 : decode cX9_count 115 = .ok (.ireturn, 1) := by decide +kernel
theorem dX9_count_116 : decode cX9_count 116 = .ok (.aload_n 0, 1) := by decide +kernel
theorem dX9_count_117 : decode cX9_count 117 = .ok (.getfield 26, 3) := by decide +kernel
theorem dX9_count_120 : decode cX9_count 120 = .ok (.getfield 122, 3) := by decide +kernel
theorem dX9_count_123 : decode cX9_count 123 = .ok (.ireturn, 1) := by decide +kernel
theorem dX9_count_124 : decode cX9_count 124 = .ok (.iconst (-1), 1) := by decide +kernel
theorem dX9_count_125 : decode cX9_count 125 = .ok (.ireturn, 1) := by decide +kernel
set_option maxRecDepth 20000 in
theorem ggX9_check_X9_within : GoodIn wsX9_check wsX9_within := goodIn_r _ [8] (by decide +kernel) (by decide +kernel)
set_option maxRecDepth 20000 in
theorem gX9_check_X9_within : GoodIn wsX9_check (va_wsS RX9 90 yX9_within wsX9_within) := goodIn_app (goodIn_of _ (by decide +kernel)) ggX9_check_X9_within
set_option maxRecDepth 20000 in
theorem ggX9_check_X7_holds : GoodIn wsX9_check wsX7_holds := goodIn_r _ [13, 14, 64, 65, 66, 67, 68, 69] (by decide +kernel) (by decide +kernel)
set_option maxRecDepth 20000 in
theorem gX9_check_X7_holds : GoodIn wsX9_check (wsV RX9 132 RX7 yX7_holds wsX7_holds) := goodIn_app (goodIn_of _ (by decide +kernel)) ggX9_check_X7_holds
set_option maxRecDepth 20000 in
theorem ggX9_check_X7_open : GoodIn wsX9_check wsX7_open := goodIn_r _ [18, 14, 19, 20, 21, 22, 64, 65, 66, 67, 68, 69] (by decide +kernel) (by decide +kernel)
set_option maxRecDepth 20000 in
theorem gX9_check_X7_open : GoodIn wsX9_check (wsV RX9 135 RX7 yX7_open wsX7_open) := goodIn_app (goodIn_of _ (by decide +kernel)) ggX9_check_X7_open
set_option maxRecDepth 20000 in
theorem ggX9_check_X1_isTold : GoodIn wsX9_check wsX1_isTold := goodIn_r _ [27, 28, 6, 7, 8, 29, 30, 5, 70, 71, 72, 73] (by decide +kernel) (by decide +kernel)
set_option maxRecDepth 20000 in
theorem gX9_check_X1_isTold : GoodIn wsX9_check (wsV RX9 108 RX1 yX1_isTold wsX1_isTold) := goodIn_app (goodIn_of _ (by decide +kernel)) ggX9_check_X1_isTold
set_option maxRecDepth 20000 in
theorem ggX9_check_X9_at : GoodIn wsX9_check wsX9_at := goodIn_r _ [33] (by decide +kernel) (by decide +kernel)
set_option maxRecDepth 20000 in
theorem gX9_check_X9_at : GoodIn wsX9_check (va_wsS RX9 188 yX9_at wsX9_at) := goodIn_app (goodIn_of _ (by decide +kernel)) ggX9_check_X9_at
set_option maxRecDepth 20000 in
theorem ggX9_check_X7_byteAt : GoodIn wsX9_check wsX7_byteAt := goodIn_r _ [37, 19, 38, 32, 7, 33, 64, 65, 66, 67, 68, 69] (by decide +kernel) (by decide +kernel)
set_option maxRecDepth 20000 in
theorem gX9_check_X7_byteAt : GoodIn wsX9_check (wsV RX9 224 RX7 yX7_byteAt wsX7_byteAt) := goodIn_app (goodIn_of _ (by decide +kernel)) ggX9_check_X7_byteAt
theorem dX9_check_0 : decode cX9_check 0 = .ok (.iload_n 1, 1) := by decide +kernel
theorem dX9_check_1 : decode cX9_check 1 = .ok (.iconst 0, 1) := by decide +kernel
theorem dX9_check_2 : decode cX9_check 2 = .ok (.bipush 16, 2) := by decide +kernel
theorem dX9_check_4 : decode cX9_check 4 = .ok (.invokestatic 90, 3) := by decide +kernel
theorem dX9_check_7 : decode cX9_check 7 = .ok (.ifCond .eq 14, 3) := by decide +kernel
theorem dX9_check_10 : decode cX9_check 10 = .ok (.aload_n 0, 1) := by decide +kernel
theorem dX9_check_11 : decode cX9_check 11 = .ok (.getfield 10, 3) := by decide +kernel
theorem dX9_check_14 : decode cX9_check 14 = .ok (.iload_n 1, 1) := by decide +kernel
theorem dX9_check_15 : decode cX9_check 15 = .ok (.invokevirtual 132, 3) := by decide +kernel
theorem dX9_check_18 : decode cX9_check 18 = .ok (.ifCond .ne 6, 3) := by decide +kernel
theorem dX9_check_21 : decode cX9_check 21 = .ok (.bipush (-2), 2) := by decide +kernel
theorem dX9_check_23 : decode cX9_check 23 = .ok (.ireturn, 1) := by decide +kernel
theorem dX9_check_24 : decode cX9_check 24 = .ok (.aload_n 0, 1) := by decide +kernel
theorem dX9_check_25 : decode cX9_check 25 = .ok (.getfield 10, 3) := by decide +kernel
theorem dX9_check_28 : decode cX9_check 28 = .ok (.iload_n 1, 1) := by decide +kernel
theorem dX9_check_29 : decode cX9_check 29 = .ok (.invokevirtual 135, 3) := by decide +kernel
theorem dX9_check_32 : decode cX9_check 32 = .ok (.iconst 0, 1) := by decide +kernel
theorem dX9_check_33 : decode cX9_check 33 = .ok (.istore_n 2, 1) := by decide +kernel
theorem dX9_check_34 : decode cX9_check 34 = .ok (.iload_n 2, 1) := by decide +kernel
theorem dX9_check_35 : decode cX9_check 35 = .ok (.iload_n 1, 1) := by decide +kernel
theorem dX9_check_36 : decode cX9_check 36 = .ok (.if_icmp .ge 52, 3) := by decide +kernel
theorem dX9_check_39 : decode cX9_check 39 = .ok (.aload_n 0, 1) := by decide +kernel
theorem dX9_check_40 : decode cX9_check 40 = .ok (.getfield 19, 3) := by decide +kernel
theorem dX9_check_43 : decode cX9_check 43 = .ok (.iload_n 2, 1) := by decide +kernel
theorem dX9_check_44 : decode cX9_check 44 = .ok (.invokevirtual 108, 3) := by decide +kernel
theorem dX9_check_47 : decode cX9_check 47 = .ok (.ifCond .eq 17, 3) := by decide +kernel
theorem dX9_check_50 : decode cX9_check 50 = .ok (.aload_n 0, 1) := by decide +kernel
theorem dX9_check_51 : decode cX9_check 51 = .ok (.getfield 26, 3) := by decide +kernel
theorem dX9_check_54 : decode cX9_check 54 = .ok (.getfield 98, 3) := by decide +kernel
theorem dX9_check_57 : decode cX9_check 57 = .ok (.iload_n 2, 1) := by decide +kernel
theorem dX9_check_58 : decode cX9_check 58 = .ok (.invokestatic 188, 3) := by decide +kernel
theorem dX9_check_61 : decode cX9_check 61 = .ok (.goto 6, 3) := by decide +kernel
theorem dX9_check_64 : decode cX9_check 64 = .ok (.sipush 255, 3) := by decide +kernel
theorem dX9_check_67 : decode cX9_check 67 = .ok (.istore_n 3, 1) := by decide +kernel
theorem dX9_check_68 : decode cX9_check 68 = .ok (.aload_n 0, 1) := by decide +kernel
theorem dX9_check_69 : decode cX9_check 69 = .ok (.getfield 10, 3) := by decide +kernel
theorem dX9_check_72 : decode cX9_check 72 = .ok (.iload_n 2, 1) := by decide +kernel
theorem dX9_check_73 : decode cX9_check 73 = .ok (.invokevirtual 224, 3) := by decide +kernel
theorem dX9_check_76 : decode cX9_check 76 = .ok (.iload_n 3, 1) := by decide +kernel
theorem dX9_check_77 : decode cX9_check 77 = .ok (.if_icmp .eq 5, 3) := by decide +kernel
theorem dX9_check_80 : decode cX9_check 80 = .ok (.iload_n 2, 1) := by decide +kernel
theorem dX9_check_81 : decode cX9_check 81 = .ok (.ireturn, 1) := by decide +kernel
theorem dX9_check_82 : decode cX9_check 82 = .ok (.iinc 2 1, 3) := by decide +kernel
theorem dX9_check_85 : decode cX9_check 85 = .ok (.goto (-51), 3) := by decide +kernel
theorem dX9_check_88 : decode cX9_check 88 = .ok (.iconst (-1), 1) := by decide +kernel
theorem dX9_check_89 : decode cX9_check 89 = .ok (.ireturn, 1) := by decide +kernel
set_option maxRecDepth 20000 in
theorem ggX9_keep_X6_copy : GoodIn wsX9_keep wsX6_copy := goodIn_r _ [9, 10, 11, 12, 13, 14, 15, 16, 17, 18, 19, 20, 21, 22, 23, 24, 40, 41, 42, 43, 44, 45, 46, 47, 48, 49] (by decide +kernel) (by decide +kernel)
set_option maxRecDepth 20000 in
theorem gX9_keep_X6_copy : GoodIn wsX9_keep (wsV RX9 178 RX6 yX6_copy wsX6_copy) := goodIn_app (goodIn_of _ (by decide +kernel)) ggX9_keep_X6_copy
theorem dX9_keep_0 : decode cX9_keep 0 = .ok (.aload_n 0, 1) := by decide +kernel
theorem dX9_keep_1 : decode cX9_keep 1 = .ok (.getfield 33, 3) := by decide +kernel
theorem dX9_keep_4 : decode cX9_keep 4 = .ok (.aload_n 0, 1) := by decide +kernel
theorem dX9_keep_5 : decode cX9_keep 5 = .ok (.getfield 26, 3) := by decide +kernel
theorem dX9_keep_8 : decode cX9_keep 8 = .ok (.invokevirtual 178, 3) := by decide +kernel
theorem dX9_keep_11 : decode cX9_keep 11 = .ok (.aload_n 0, 1) := by decide +kernel
theorem dX9_keep_12 : decode cX9_keep 12 = .ok (.iconst 1, 1) := by decide +kernel
theorem dX9_keep_13 : decode cX9_keep 13 = .ok (.putfield 86, 3) := by decide +kernel
theorem dX9_keep_16 : decode cX9_keep 16 = .ok (.aload_n 0, 1) := by decide +kernel
theorem dX9_keep_17 : decode cX9_keep 17 = .ok (.getfield 26, 3) := by decide +kernel
theorem dX9_keep_20 : decode cX9_keep 20 = .ok (.getfield 215, 3) := by decide +kernel
theorem dX9_keep_23 : decode cX9_keep 23 = .ok (.ireturn, 1) := by decide +kernel
set_option maxRecDepth 20000 in
theorem ggX9_undo_X6_copy : GoodIn wsX9_undo wsX6_copy := goodIn_r _ [8, 9, 10, 11, 12, 13, 14, 15, 16, 17, 18, 19, 20, 21, 22, 23, 39, 40, 41, 42, 43, 44, 45, 46, 47, 48] (by decide +kernel) (by decide +kernel)
set_option maxRecDepth 20000 in
theorem gX9_undo_X6_copy : GoodIn wsX9_undo (wsV RX9 178 RX6 yX6_copy wsX6_copy) := goodIn_app (goodIn_of _ (by decide +kernel)) ggX9_undo_X6_copy
theorem dX9_undo_0 : decode cX9_undo 0 = .ok (.aload_n 0, 1) := by decide +kernel
theorem dX9_undo_1 : decode cX9_undo 1 = .ok (.getfield 86, 3) := by decide +kernel
theorem dX9_undo_4 : decode cX9_undo 4 = .ok (.ifCond .eq 14, 3) := by decide +kernel
theorem dX9_undo_7 : decode cX9_undo 7 = .ok (.aload_n 0, 1) := by decide +kernel
theorem dX9_undo_8 : decode cX9_undo 8 = .ok (.getfield 26, 3) := by decide +kernel
theorem dX9_undo_11 : decode cX9_undo 11 = .ok (.aload_n 0, 1) := by decide +kernel
theorem dX9_undo_12 : decode cX9_undo 12 = .ok (.getfield 33, 3) := by decide +kernel
theorem dX9_undo_15 : decode cX9_undo 15 = .ok (.invokevirtual 178, 3) := by decide +kernel
theorem dX9_undo_18 : decode cX9_undo 18 = .ok (.aload_n 0, 1) := by decide +kernel
theorem dX9_undo_19 : decode cX9_undo 19 = .ok (.getfield 86, 3) := by decide +kernel
theorem dX9_undo_22 : decode cX9_undo 22 = .ok (.ireturn, 1) := by decide +kernel
set_option maxRecDepth 20000 in
theorem ggX9_worst_X9_at : GoodIn wsX9_worst wsX9_at := goodIn_r _ [8] (by decide +kernel) (by decide +kernel)
set_option maxRecDepth 20000 in
theorem gX9_worst_X9_at : GoodIn wsX9_worst (va_wsS RX9 188 yX9_at wsX9_at) := goodIn_app (goodIn_of _ (by decide +kernel)) ggX9_worst_X9_at
set_option maxRecDepth 20000 in
theorem ggX9_worst_X1_isTold : GoodIn wsX9_worst wsX1_isTold := goodIn_r _ [13, 14, 15, 7, 16, 17, 18, 19, 45, 46, 47, 48] (by decide +kernel) (by decide +kernel)
set_option maxRecDepth 20000 in
theorem gX9_worst_X1_isTold : GoodIn wsX9_worst (wsV RX9 108 RX1 yX1_isTold wsX1_isTold) := goodIn_app (goodIn_of _ (by decide +kernel)) ggX9_worst_X1_isTold
theorem dX9_worst_0 : decode cX9_worst 0 = .ok (.iconst (-1), 1) := by decide +kernel
theorem dX9_worst_1 : decode cX9_worst 1 = .ok (.istore_n 1, 1) := by decide +kernel
theorem dX9_worst_2 : decode cX9_worst 2 = .ok (.bipush (-2), 2) := by decide +kernel
theorem dX9_worst_4 : decode cX9_worst 4 = .ok (.istore_n 2, 1) := by decide +kernel
theorem dX9_worst_5 : decode cX9_worst 5 = .ok (.iconst 0, 1) := by decide +kernel
theorem dX9_worst_6 : decode cX9_worst 6 = .ok (.istore_n 3, 1) := by decide +kernel
theorem dX9_worst_7 : decode cX9_worst 7 = .ok (.iload_n 3, 1) := by decide +kernel
theorem dX9_worst_8 : decode cX9_worst 8 = .ok (.bipush 16, 2) := by decide +kernel
theorem dX9_worst_10 : decode cX9_worst 10 = .ok (.if_icmp .ge 56, 3) := by decide +kernel
theorem dX9_worst_13 : decode cX9_worst 13 = .ok (.aload_n 0, 1) := by decide +kernel
theorem dX9_worst_14 : decode cX9_worst 14 = .ok (.getfield 26, 3) := by decide +kernel
theorem dX9_worst_17 : decode cX9_worst 17 = .ok (.getfield 98, 3) := by decide +kernel
theorem dX9_worst_20 : decode cX9_worst 20 = .ok (.iload_n 3, 1) := by decide +kernel
theorem dX9_worst_21 : decode cX9_worst 21 = .ok (.invokestatic 188, 3) := by decide +kernel
theorem dX9_worst_24 : decode cX9_worst 24 = .ok (.aload_n 0, 1) := by decide +kernel
theorem dX9_worst_25 : decode cX9_worst 25 = .ok (.getfield 26, 3) := by decide +kernel
theorem dX9_worst_28 : decode cX9_worst 28 = .ok (.getfield 105, 3) := by decide +kernel
theorem dX9_worst_31 : decode cX9_worst 31 = .ok (.iload_n 3, 1) := by decide +kernel
theorem dX9_worst_32 : decode cX9_worst 32 = .ok (.invokestatic 188, 3) := by decide +kernel
theorem dX9_worst_35 : decode cX9_worst 35 = .ok (.imul, 1) := by decide +kernel
theorem dX9_worst_36 : decode cX9_worst 36 = .ok (.istore 4, 2) := by decide +kernel
theorem dX9_worst_38 : decode cX9_worst 38 = .ok (.aload_n 0, 1) := by decide +kernel
theorem dX9_worst_39 : decode cX9_worst 39 = .ok (.getfield 19, 3) := by decide +kernel
theorem dX9_worst_42 : decode cX9_worst 42 = .ok (.iload_n 3, 1) := by decide +kernel
theorem dX9_worst_43 : decode cX9_worst 43 = .ok (.invokevirtual 108, 3) := by decide +kernel
theorem dX9_worst_46 : decode cX9_worst 46 = .ok (.ifCond .eq 14, 3) := by decide +kernel
theorem dX9_worst_49 : decode cX9_worst 49 = .ok (.iload 4, 2) := by decide +kernel
theorem dX9_worst_51 : decode cX9_worst 51 = .ok (.iload_n 1, 1) := by decide +kernel
theorem dX9_worst_52 : decode cX9_worst 52 = .ok (.if_icmp .le 8, 3) := by decide +kernel
theorem dX9_worst_55 : decode cX9_worst 55 = .ok (.iload 4, 2) := by decide +kernel
theorem dX9_worst_57 : decode cX9_worst 57 = .ok (.istore_n 1, 1) := by decide +kernel
theorem dX9_worst_58 : decode cX9_worst 58 = .ok (.iload_n 3, 1) := by decide +kernel
theorem dX9_worst_59 : decode cX9_worst 59 = .ok (.istore_n 2, 1) := by decide +kernel
theorem dX9_worst_60 : decode cX9_worst 60 = .ok (.iinc 3 1, 3) := by decide +kernel
theorem dX9_worst_63 : decode cX9_worst 63 = .ok (.goto (-56), 3) := by decide +kernel
theorem dX9_worst_66 : decode cX9_worst 66 = .ok (.iload_n 2, 1) := by decide +kernel
theorem dX9_worst_67 : decode cX9_worst 67 = .ok (.ireturn, 1) := by decide +kernel
set_option maxRecDepth 20000 in
theorem ggX9_ways_X1_isTold : GoodIn wsX9_ways wsX1_isTold := goodIn_r _ [6, 7, 8, 9, 10, 11, 12, 13, 60, 61, 62, 63] (by decide +kernel) (by decide +kernel)
set_option maxRecDepth 20000 in
theorem gX9_ways_X1_isTold : GoodIn wsX9_ways (wsV RX9 108 RX1 yX1_isTold wsX1_isTold) := goodIn_app (goodIn_of _ (by decide +kernel)) ggX9_ways_X1_isTold
set_option maxRecDepth 20000 in
theorem ggX9_ways_X1_shortestWays : GoodIn wsX9_ways wsX1_shortestWays := goodIn_r _ [17, 18, 19, 20, 21, 5, 22, 23, 11, 9, 12, 13, 8, 10, 24, 25, 26, 27, 28, 29, 30, 31, 32, 33, 34, 35, 36, 37, 38, 39, 40, 41, 42, 43, 44, 60, 61, 62, 63] (by decide +kernel) (by decide +kernel)
set_option maxRecDepth 20000 in
theorem gX9_ways_X1_shortestWays : GoodIn wsX9_ways (wsV RX9 227 RX1 yX1_shortestWays wsX1_shortestWays) := goodIn_app (goodIn_of _ (by decide +kernel)) ggX9_ways_X1_shortestWays
theorem dX9_ways_0 : decode cX9_ways 0 = .ok (.aload_n 0, 1) := by decide +kernel
theorem dX9_ways_1 : decode cX9_ways 1 = .ok (.getfield 19, 3) := by decide +kernel
theorem dX9_ways_4 : decode cX9_ways 4 = .ok (.iload_n 1, 1) := by decide +kernel
theorem dX9_ways_5 : decode cX9_ways 5 = .ok (.invokevirtual 108, 3) := by decide +kernel
theorem dX9_ways_8 : decode cX9_ways 8 = .ok (.ifCond .eq 14, 3) := by decide +kernel
theorem dX9_ways_11 : decode cX9_ways 11 = .ok (.aload_n 0, 1) := by decide +kernel
theorem dX9_ways_12 : decode cX9_ways 12 = .ok (.getfield 19, 3) := by decide +kernel
theorem dX9_ways_15 : decode cX9_ways 15 = .ok (.iload_n 2, 1) := by decide +kernel
theorem dX9_ways_16 : decode cX9_ways 16 = .ok (.invokevirtual 108, 3) := by decide +kernel
theorem dX9_ways_19 : decode cX9_ways 19 = .ok (.ifCond .ne 5, 3) := by decide +kernel
theorem dX9_ways_22 : decode cX9_ways 22 = .ok (.iconst (-1), 1) := by decide +kernel
theorem dX9_ways_23 : decode cX9_ways 23 = .ok (.ireturn, 1) := by decide +kernel
theorem dX9_ways_24 : decode cX9_ways 24 = .ok (.aload_n 0, 1) := by decide +kernel
theorem dX9_ways_25 : decode cX9_ways 25 = .ok (.getfield 19, 3) := by decide +kernel
theorem dX9_ways_28 : decode cX9_ways 28 = .ok (.iload_n 1, 1) := by decide +kernel
theorem dX9_ways_29 : decode cX9_ways 29 = .ok (.iload_n 2, 1) := by decide +kernel
theorem dX9_ways_30 : decode cX9_ways 30 = .ok (.invokevirtual 227, 3) := by decide +kernel
theorem dX9_ways_33 : decode cX9_ways 33 = .ok (.ireturn, 1) := by decide +kernel
set_option maxRecDepth 20000 in
theorem ggX9_way_X1_isTold : GoodIn wsX9_way wsX1_isTold := goodIn_r _ [6, 7, 8, 9, 10, 11, 12, 13, 60, 61, 62, 63] (by decide +kernel) (by decide +kernel)
set_option maxRecDepth 20000 in
theorem gX9_way_X1_isTold : GoodIn wsX9_way (wsV RX9 108 RX1 yX1_isTold wsX1_isTold) := goodIn_app (goodIn_of _ (by decide +kernel)) ggX9_way_X1_isTold
set_option maxRecDepth 20000 in
theorem ggX9_way_X9_within : GoodIn wsX9_way wsX9_within := goodIn_r _ [10] (by decide +kernel) (by decide +kernel)
set_option maxRecDepth 20000 in
theorem gX9_way_X9_within : GoodIn wsX9_way (va_wsS RX9 90 yX9_within wsX9_within) := goodIn_app (goodIn_of _ (by decide +kernel)) ggX9_way_X9_within
set_option maxRecDepth 20000 in
theorem ggX9_way_X1_measure : GoodIn wsX9_way wsX1_measure := goodIn_r _ [17, 18, 11, 9, 12, 13, 8, 10, 19, 20, 21, 22, 23, 5, 24, 25, 26, 27, 28, 29, 30, 31, 60, 61, 62, 63] (by decide +kernel) (by decide +kernel)
set_option maxRecDepth 20000 in
theorem gX9_way_X1_measure : GoodIn wsX9_way (wsV RX9 230 RX1 yX1_measure wsX1_measure) := goodIn_app (goodIn_of _ (by decide +kernel)) ggX9_way_X1_measure
set_option maxRecDepth 20000 in
theorem ggX9_way_X1_stepsTo : GoodIn wsX9_way wsX1_stepsTo := goodIn_r _ [35, 18, 8, 9, 10, 30, 31, 60, 61, 62, 63] (by decide +kernel) (by decide +kernel)
set_option maxRecDepth 20000 in
theorem gX9_way_X1_stepsTo : GoodIn wsX9_way (wsV RX9 233 RX1 yX1_stepsTo wsX1_stepsTo) := goodIn_app (goodIn_of _ (by decide +kernel)) ggX9_way_X1_stepsTo
set_option maxRecDepth 20000 in
theorem ggX9_way_X1_stepTowards : GoodIn wsX9_way wsX1_stepTowards := goodIn_r _ [39, 40, 41, 42, 5, 43, 29, 30, 9, 31, 11, 12, 13, 8, 10, 44, 33, 34, 35, 18, 60, 61, 62, 63] (by decide +kernel) (by decide +kernel)
set_option maxRecDepth 20000 in
theorem gX9_way_X1_stepTowards : GoodIn wsX9_way (wsV RX9 236 RX1 yX1_stepTowards wsX1_stepTowards) := goodIn_app (goodIn_of _ (by decide +kernel)) ggX9_way_X1_stepTowards
theorem dX9_way_0 : decode cX9_way 0 = .ok (.aload_n 0, 1) := by decide +kernel
theorem dX9_way_1 : decode cX9_way 1 = .ok (.getfield 19, 3) := by decide +kernel
theorem dX9_way_4 : decode cX9_way 4 = .ok (.iload_n 1, 1) := by decide +kernel
theorem dX9_way_5 : decode cX9_way 5 = .ok (.invokevirtual 108, 3) := by decide +kernel
theorem dX9_way_8 : decode cX9_way 8 = .ok (.ifCond .eq 30, 3) := by decide +kernel
theorem dX9_way_11 : decode cX9_way 11 = .ok (.aload_n 0, 1) := by decide +kernel
theorem dX9_way_12 : decode cX9_way 12 = .ok (.getfield 19, 3) := by decide +kernel
theorem dX9_way_15 : decode cX9_way 15 = .ok (.iload_n 2, 1) := by decide +kernel
theorem dX9_way_16 : decode cX9_way 16 = .ok (.invokevirtual 108, 3) := by decide +kernel
theorem dX9_way_19 : decode cX9_way 19 = .ok (.ifCond .eq 19, 3) := by decide +kernel
theorem dX9_way_22 : decode cX9_way 22 = .ok (.iload_n 3, 1) := by decide +kernel
theorem dX9_way_23 : decode cX9_way 23 = .ok (.bipush 100, 2) := by decide +kernel
theorem dX9_way_25 : decode cX9_way 25 = .ok (.if_icmp .eq 15, 3) := by decide +kernel
theorem dX9_way_28 : decode cX9_way 28 = .ok (.iload_n 3, 1) := by decide +kernel
theorem dX9_way_29 : decode cX9_way 29 = .ok (.iconst 0, 1) := by decide +kernel
theorem dX9_way_30 : decode cX9_way 30 = .ok (.bipush 15, 2) := by decide +kernel
theorem dX9_way_32 : decode cX9_way 32 = .ok (.invokestatic 90, 3) := by decide +kernel
theorem dX9_way_35 : decode cX9_way 35 = .ok (.ifCond .ne 5, 3) := by decide +kernel
theorem dX9_way_38 : decode cX9_way 38 = .ok (.iconst (-1), 1) := by decide +kernel
theorem dX9_way_39 : decode cX9_way 39 = .ok (.ireturn, 1) := by decide +kernel
theorem dX9_way_40 : decode cX9_way 40 = .ok (.aload_n 0, 1) := by decide +kernel
theorem dX9_way_41 : decode cX9_way 41 = .ok (.getfield 19, 3) := by decide +kernel
theorem dX9_way_44 : decode cX9_way 44 = .ok (.iload_n 2, 1) := by decide +kernel
theorem dX9_way_45 : decode cX9_way 45 = .ok (.invokevirtual 230, 3) := by decide +kernel
theorem dX9_way_48 : decode cX9_way 48 = .ok (.aload_n 0, 1) := by decide +kernel
theorem dX9_way_49 : decode cX9_way 49 = .ok (.getfield 19, 3) := by decide +kernel
theorem dX9_way_52 : decode cX9_way 52 = .ok (.iload_n 1, 1) := by decide +kernel
theorem dX9_way_53 : decode cX9_way 53 = .ok (.invokevirtual 233, 3) := by decide +kernel
theorem dX9_way_56 : decode cX9_way 56 = .ok (.istore 4, 2) := by decide +kernel
theorem dX9_way_58 : decode cX9_way 58 = .ok (.iload 4, 2) := by decide +kernel
theorem dX9_way_60 : decode cX9_way 60 = .ok (.ifCond .ge 6, 3) := by decide +kernel
theorem dX9_way_63 : decode cX9_way 63 = .ok (.bipush (-2), 2) := by decide +kernel
theorem dX9_way_65 : decode cX9_way 65 = .ok (.ireturn, 1) := by decide +kernel
theorem dX9_way_66 : decode cX9_way 66 = .ok (.iload_n 3, 1) := by decide +kernel
theorem dX9_way_67 : decode cX9_way 67 = .ok (.bipush 100, 2) := by decide +kernel
theorem dX9_way_69 : decode cX9_way 69 = .ok (.if_icmp .ne 6, 3) := by decide +kernel
theorem dX9_way_72 : decode cX9_way 72 = .ok (.iload 4, 2) := by decide +kernel
theorem dX9_way_74 : decode cX9_way 74 = .ok (.ireturn, 1) := by decide +kernel
theorem dX9_way_75 : decode cX9_way 75 = .ok (.iload_n 3, 1) := by decide +kernel
theorem dX9_way_76 : decode cX9_way 76 = .ok (.iload 4, 2) := by decide +kernel
theorem dX9_way_78 : decode cX9_way 78 = .ok (.if_icmp .le 8, 3) := by decide +kernel
theorem dX9_way_81 : decode cX9_way 81 = .ok (.bipush (-4), 2) := by decide +kernel
theorem dX9_way_83 : decode cX9_way 83 = .ok (.goto 12, 3) := by decide +kernel
theorem dX9_way_86 : decode cX9_way 86 = .ok (.aload_n 0, 1) := by decide +kernel
theorem dX9_way_87 : decode cX9_way 87 = .ok (.getfield 19, 3) := by decide +kernel
theorem dX9_way_90 : decode cX9_way 90 = .ok (.iload_n 1, 1) := by decide +kernel
theorem dX9_way_91 : decode cX9_way 91 = .ok (.iload_n 3, 1) := by decide +kernel
theorem dX9_way_92 : decode cX9_way 92 = .ok (.invokevirtual 236, 3) := by decide +kernel
theorem dX9_way_95 : decode cX9_way 95 = .ok (.ireturn, 1) := by decide +kernel
set_option maxRecDepth 20000 in
theorem ggX9_nearest_X1_isTold : GoodIn wsX9_nearest wsX1_isTold := goodIn_r _ [8, 9, 10, 11, 12, 13, 14, 15, 70, 71, 72, 73] (by decide +kernel) (by decide +kernel)
set_option maxRecDepth 20000 in
theorem gX9_nearest_X1_isTold : GoodIn wsX9_nearest (wsV RX9 108 RX1 yX1_isTold wsX1_isTold) := goodIn_app (goodIn_of _ (by decide +kernel)) ggX9_nearest_X1_isTold
set_option maxRecDepth 20000 in
theorem ggX9_nearest_X9_within : GoodIn wsX9_nearest wsX9_within := goodIn_r _ [12] (by decide +kernel) (by decide +kernel)
set_option maxRecDepth 20000 in
theorem gX9_nearest_X9_within : GoodIn wsX9_nearest (va_wsS RX9 90 yX9_within wsX9_within) := goodIn_app (goodIn_of _ (by decide +kernel)) ggX9_nearest_X9_within
set_option maxRecDepth 20000 in
theorem ggX9_nearest_X1_measure : GoodIn wsX9_nearest wsX1_measure := goodIn_r _ [19, 20, 13, 11, 14, 15, 10, 12, 21, 22, 23, 24, 25, 7, 26, 27, 28, 29, 30, 31, 32, 33, 70, 71, 72, 73] (by decide +kernel) (by decide +kernel)
set_option maxRecDepth 20000 in
theorem gX9_nearest_X1_measure : GoodIn wsX9_nearest (wsV RX9 230 RX1 yX1_measure wsX1_measure) := goodIn_app (goodIn_of _ (by decide +kernel)) ggX9_nearest_X1_measure
set_option maxRecDepth 20000 in
theorem ggX9_nearest_X6_isTold : GoodIn wsX9_nearest wsX6_isTold := goodIn_r _ [38, 39, 10, 11, 12, 13, 14, 15, 60, 61, 62, 63, 64, 65, 66, 67, 68, 69] (by decide +kernel) (by decide +kernel)
set_option maxRecDepth 20000 in
theorem gX9_nearest_X6_isTold : GoodIn wsX9_nearest (wsV RX9 195 RX6 yX6_isTold wsX6_isTold) := goodIn_app (goodIn_of _ (by decide +kernel)) ggX9_nearest_X6_isTold
set_option maxRecDepth 20000 in
theorem ggX9_nearest_X9_at : GoodIn wsX9_nearest wsX9_at := goodIn_r _ [33] (by decide +kernel) (by decide +kernel)
set_option maxRecDepth 20000 in
theorem gX9_nearest_X9_at : GoodIn wsX9_nearest (va_wsS RX9 188 yX9_at wsX9_at) := goodIn_app (goodIn_of _ (by decide +kernel)) ggX9_nearest_X9_at
set_option maxRecDepth 20000 in
theorem ggX9_nearest_X1_stepsTo : GoodIn wsX9_nearest wsX1_stepsTo := goodIn_r _ [44, 20, 10, 11, 12, 32, 33, 70, 71, 72, 73] (by decide +kernel) (by decide +kernel)
set_option maxRecDepth 20000 in
theorem gX9_nearest_X1_stepsTo : GoodIn wsX9_nearest (wsV RX9 233 RX1 yX1_stepsTo wsX1_stepsTo) := goodIn_app (goodIn_of _ (by decide +kernel)) ggX9_nearest_X1_stepsTo
theorem dX9_nearest_0 : decode cX9_nearest 0 = .ok (.aload_n 0, 1) := by decide +kernel
theorem dX9_nearest_1 : decode cX9_nearest 1 = .ok (.getfield 19, 3) := by decide +kernel
theorem dX9_nearest_4 : decode cX9_nearest 4 = .ok (.iload_n 1, 1) := by decide +kernel
theorem dX9_nearest_5 : decode cX9_nearest 5 = .ok (.invokevirtual 108, 3) := by decide +kernel
theorem dX9_nearest_8 : decode cX9_nearest 8 = .ok (.ifCond .eq 12, 3) := by decide +kernel
theorem dX9_nearest_11 : decode cX9_nearest 11 = .ok (.iload_n 2, 1) := by decide +kernel
theorem dX9_nearest_12 : decode cX9_nearest 12 = .ok (.iconst 0, 1) := by decide +kernel
theorem dX9_nearest_13 : decode cX9_nearest 13 = .ok (.iconst 1, 1) := by decide +kernel
theorem dX9_nearest_14 : decode cX9_nearest 14 = .ok (.invokestatic 90, 3) := by decide +kernel
theorem dX9_nearest_17 : decode cX9_nearest 17 = .ok (.ifCond .ne 5, 3) := by decide +kernel
theorem dX9_nearest_20 : decode cX9_nearest 20 = .ok (.iconst (-1), 1) := by decide +kernel
theorem dX9_nearest_21 : decode cX9_nearest 21 = .ok (.ireturn, 1) := by decide +kernel
theorem dX9_nearest_22 : decode cX9_nearest 22 = .ok (.aload_n 0, 1) := by decide +kernel
theorem dX9_nearest_23 : decode cX9_nearest 23 = .ok (.getfield 19, 3) := by decide +kernel
theorem dX9_nearest_26 : decode cX9_nearest 26 = .ok (.iload_n 1, 1) := by decide +kernel
theorem dX9_nearest_27 : decode cX9_nearest 27 = .ok (.invokevirtual 230, 3) := by decide +kernel
theorem dX9_nearest_30 : decode cX9_nearest 30 = .ok (.bipush (-2), 2) := by decide +kernel
theorem dX9_nearest_32 : decode cX9_nearest 32 = .ok (.istore_n 3, 1) := by decide +kernel
theorem dX9_nearest_33 : decode cX9_nearest 33 = .ok (.bipush (-2), 2) := by decide +kernel
theorem dX9_nearest_35 : decode cX9_nearest 35 = .ok (.istore 4, 2) := by decide +kernel
theorem dX9_nearest_37 : decode cX9_nearest 37 = .ok (.iconst 0, 1) := by decide +kernel
theorem dX9_nearest_38 : decode cX9_nearest 38 = .ok (.istore 5, 2) := by decide +kernel
theorem dX9_nearest_40 : decode cX9_nearest 40 = .ok (.iload 5, 2) := by decide +kernel
theorem dX9_nearest_42 : decode cX9_nearest 42 = .ok (.bipush 8, 2) := by decide +kernel
theorem dX9_nearest_44 : decode cX9_nearest 44 = .ok (.if_icmp .ge 70, 3) := by decide +kernel
theorem dX9_nearest_47 : decode cX9_nearest 47 = .ok (.aload_n 0, 1) := by decide +kernel
theorem dX9_nearest_48 : decode cX9_nearest 48 = .ok (.getfield 26, 3) := by decide +kernel
theorem dX9_nearest_51 : decode cX9_nearest 51 = .ok (.iload 5, 2) := by decide +kernel
theorem dX9_nearest_53 : decode cX9_nearest 53 = .ok (.invokevirtual 195, 3) := by decide +kernel
theorem dX9_nearest_56 : decode cX9_nearest 56 = .ok (.ifCond .eq 25, 3) := by decide +kernel
theorem dX9_nearest_59 : decode cX9_nearest 59 = .ok (.aload_n 0, 1) := by decide +kernel
theorem dX9_nearest_60 : decode cX9_nearest 60 = .ok (.getfield 19, 3) := by decide +kernel
theorem dX9_nearest_63 : decode cX9_nearest 63 = .ok (.aload_n 0, 1) := by decide +kernel
theorem dX9_nearest_64 : decode cX9_nearest 64 = .ok (.getfield 26, 3) := by decide +kernel
theorem dX9_nearest_67 : decode cX9_nearest 67 = .ok (.getfield 115, 3) := by decide +kernel
theorem dX9_nearest_70 : decode cX9_nearest 70 = .ok (.iload 5, 2) := by decide +kernel
theorem dX9_nearest_72 : decode cX9_nearest 72 = .ok (.invokestatic 188, 3) := by decide +kernel
theorem dX9_nearest_75 : decode cX9_nearest 75 = .ok (.invokevirtual 233, 3) := by decide +kernel
theorem dX9_nearest_78 : decode cX9_nearest 78 = .ok (.goto 4, 3) := by decide +kernel
theorem dX9_nearest_81 : decode cX9_nearest 81 = .ok (.iconst (-1), 1) := by decide +kernel
theorem dX9_nearest_82 : decode cX9_nearest 82 = .ok (.istore 6, 2) := by decide +kernel
theorem dX9_nearest_84 : decode cX9_nearest 84 = .ok (.iload 6, 2) := by decide +kernel
theorem dX9_nearest_86 : decode cX9_nearest 86 = .ok (.ifCond .lt 22, 3) := by decide +kernel
theorem dX9_nearest_89 : decode cX9_nearest 89 = .ok (.iload 4, 2) := by decide +kernel
theorem dX9_nearest_91 : decode cX9_nearest 91 = .ok (.ifCond .lt 10, 3) := by decide +kernel
theorem dX9_nearest_94 : decode cX9_nearest 94 = .ok (.iload 6, 2) := by decide +kernel
theorem dX9_nearest_96 : decode cX9_nearest 96 = .ok (.iload 4, 2) := by decide +kernel
theorem dX9_nearest_98 : decode cX9_nearest 98 = .ok (.if_icmp .ge 10, 3) := by decide +kernel
theorem dX9_nearest_101 : decode cX9_nearest 101 = .ok (.iload 5, 2) := by decide +kernel
theorem dX9_nearest_103 : decode cX9_nearest 103 = .ok (.istore_n 3, 1) := by decide +kernel
theorem dX9_nearest_104 : decode cX9_nearest 104 = .ok (.iload 6, 2) := by decide +kernel
theorem dX9_nearest_106 : decode cX9_nearest 106 = .ok (.istore 4, 2) := by decide +kernel
theorem dX9_nearest_108 : decode cX9_nearest 108 = .ok (.iinc 5 1, 3) := by decide +kernel
theorem dX9_nearest_111 : decode cX9_nearest 111 = .ok (.goto (-71), 3) := by decide +kernel
theorem dX9_nearest_114 : decode cX9_nearest 114 = .ok (.iload_n 2, 1) := by decide +kernel
theorem dX9_nearest_115 : decode cX9_nearest 115 = .ok (.ifCond .ne 7, 3) := by decide +kernel
theorem dX9_nearest_118 : decode cX9_nearest 118 = .ok (.iload_n 3, 1) := by decide +kernel
theorem dX9_nearest_119 : decode cX9_nearest 119 = .ok (.goto 5, 3) := by decide +kernel
theorem dX9_nearest_122 : decode cX9_nearest 122 = .ok (.iload 4, 2) := by decide +kernel
theorem dX9_nearest_124 : decode cX9_nearest 124 = .ok (.ireturn, 1) := by decide +kernel
set_option maxRecDepth 20000 in
theorem ggX9_posts_X9_within : GoodIn wsX9_posts wsX9_within := goodIn_r _ [5] (by decide +kernel) (by decide +kernel)
set_option maxRecDepth 20000 in
theorem gX9_posts_X9_within : GoodIn wsX9_posts (va_wsS RX9 90 yX9_within wsX9_within) := goodIn_app (goodIn_of _ (by decide +kernel)) ggX9_posts_X9_within
set_option maxRecDepth 20000 in
theorem ggX9_posts_X1_fewestPosts : GoodIn wsX9_posts wsX1_fewestPosts := goodIn_r _ [10, 11, 12, 13, 9, 14, 15, 4, 16, 17, 18, 19, 2, 3, 5, 20, 21, 22, 23, 24, 25, 26, 49, 50, 51, 52] (by decide +kernel) (by decide +kernel)
set_option maxRecDepth 20000 in
theorem gX9_posts_X1_fewestPosts : GoodIn wsX9_posts (wsV RX9 239 RX1 yX1_fewestPosts wsX1_fewestPosts) := goodIn_app (goodIn_of _ (by decide +kernel)) ggX9_posts_X1_fewestPosts
set_option maxRecDepth 20000 in
theorem ggX9_posts_J6_bitCount_0f7a4 : GoodIn wsX9_posts wsJ6_bitCount_0f7a4 := goodIn_r _ [30, 31, 32, 33] (by decide +kernel) (by decide +kernel)
set_option maxRecDepth 20000 in
theorem gX9_posts_J6_bitCount_0f7a4 : GoodIn wsX9_posts (va_wsS RX9 242 yJ6_bitCount_0f7a4 wsJ6_bitCount_0f7a4) := goodIn_app (goodIn_of _ (by decide +kernel)) ggX9_posts_J6_bitCount_0f7a4
theorem dX9_posts_0 : decode cX9_posts 0 = .ok (.iload_n 1, 1) := by decide +kernel
theorem dX9_posts_1 : decode cX9_posts 1 = .ok (.iconst 0, 1) := by decide +kernel
theorem dX9_posts_2 : decode cX9_posts 2 = .ok (.iconst 1, 1) := by decide +kernel
theorem dX9_posts_3 : decode cX9_posts 3 = .ok (.invokestatic 90, 3) := by decide +kernel
theorem dX9_posts_6 : decode cX9_posts 6 = .ok (.ifCond .ne 5, 3) := by decide +kernel
theorem dX9_posts_9 : decode cX9_posts 9 = .ok (.iconst (-1), 1) := by decide +kernel
theorem dX9_posts_10 : decode cX9_posts 10 = .ok (.ireturn, 1) := by decide +kernel
theorem dX9_posts_11 : decode cX9_posts 11 = .ok (.aload_n 0, 1) := by decide +kernel
theorem dX9_posts_12 : decode cX9_posts 12 = .ok (.getfield 19, 3) := by decide +kernel
theorem dX9_posts_15 : decode cX9_posts 15 = .ok (.invokevirtual 239, 3) := by decide +kernel
theorem dX9_posts_18 : decode cX9_posts 18 = .ok (.istore_n 2, 1) := by decide +kernel
theorem dX9_posts_19 : decode cX9_posts 19 = .ok (.iload_n 1, 1) := by decide +kernel
theorem dX9_posts_20 : decode cX9_posts 20 = .ok (.ifCond .ne 10, 3) := by decide +kernel
theorem dX9_posts_23 : decode cX9_posts 23 = .ok (.iload_n 2, 1) := by decide +kernel
theorem dX9_posts_24 : decode cX9_posts 24 = .ok (.invokestatic 242, 3) := by decide +kernel
theorem dX9_posts_27 : decode cX9_posts 27 = .ok (.goto 4, 3) := by decide +kernel
theorem dX9_posts_30 : decode cX9_posts 30 = .ok (.iload_n 2, 1) := by decide +kernel
theorem dX9_posts_31 : decode cX9_posts 31 = .ok (.ireturn, 1) := by decide +kernel
set_option maxRecDepth 20000 in
theorem ggX9_round_X1_isTold : GoodIn wsX9_round wsX1_isTold := goodIn_r _ [12, 13, 14, 15, 16, 17, 18, 19, 93, 94, 95, 96] (by decide +kernel) (by decide +kernel)
set_option maxRecDepth 20000 in
theorem gX9_round_X1_isTold : GoodIn wsX9_round (wsV RX9 108 RX1 yX1_isTold wsX1_isTold) := goodIn_app (goodIn_of _ (by decide +kernel)) ggX9_round_X1_isTold
set_option maxRecDepth 20000 in
theorem ggX9_round_X9_within : GoodIn wsX9_round wsX9_within := goodIn_r _ [16] (by decide +kernel) (by decide +kernel)
set_option maxRecDepth 20000 in
theorem gX9_round_X9_within : GoodIn wsX9_round (va_wsS RX9 90 yX9_within wsX9_within) := goodIn_app (goodIn_of _ (by decide +kernel)) ggX9_round_X9_within
set_option maxRecDepth 20000 in
theorem ggX9_round_X8_init : GoodIn wsX9_round wsX8_init := goodIn_r _ [21, 22, 23, 24, 25, 26, 27, 28, 29, 80, 81, 82] (by decide +kernel) (by decide +kernel)
set_option maxRecDepth 20000 in
theorem gX9_round_X8_init_n249 : GoodIn wsX9_round (wsX8_init) := ggX9_round_X8_init
set_option maxRecDepth 20000 in
theorem ggX9_round_X8_best : GoodIn wsX9_round wsX8_best := goodIn_r _ [33, 29, 28, 27, 34, 35, 36, 5, 37, 38, 15, 39, 40, 41, 42, 43, 44, 45, 46, 47, 48, 49, 50, 51, 52, 53, 11, 54, 17, 18, 19, 14, 16, 55, 56, 57, 58, 59, 60, 61, 62, 63, 80, 81, 82, 93, 94, 95, 96] (by decide +kernel) (by decide +kernel)
set_option maxRecDepth 20000 in
theorem gX9_round_X8_best : GoodIn wsX9_round (wsV RX9 250 RX8 yX8_best wsX8_best) := goodIn_app (goodIn_of _ (by decide +kernel)) ggX9_round_X8_best
set_option maxRecDepth 20000 in
theorem ggX9_round_X9_sumOf : GoodIn wsX9_round wsX9_sumOf := goodIn_r _ [62, 63, 17, 15, 18, 19, 14, 16] (by decide +kernel) (by decide +kernel)
set_option maxRecDepth 20000 in
theorem gX9_round_X9_sumOf : GoodIn wsX9_round (va_wsS RX9 254 yX9_sumOf wsX9_sumOf) := goodIn_app (goodIn_of _ (by decide +kernel)) ggX9_round_X9_sumOf
theorem dX9_round_0 : decode cX9_round 0 = .ok (.aload_n 0, 1) := by decide +kernel
theorem dX9_round_1 : decode cX9_round 1 = .ok (.getfield 19, 3) := by decide +kernel
theorem dX9_round_4 : decode cX9_round 4 = .ok (.iload_n 1, 1) := by decide +kernel
theorem dX9_round_5 : decode cX9_round 5 = .ok (.invokevirtual 108, 3) := by decide +kernel
theorem dX9_round_8 : decode cX9_round 8 = .ok (.ifCond .eq 22, 3) := by decide +kernel
theorem dX9_round_11 : decode cX9_round 11 = .ok (.iload_n 2, 1) := by decide +kernel
theorem dX9_round_12 : decode cX9_round 12 = .ok (.iconst 1, 1) := by decide +kernel
theorem dX9_round_13 : decode cX9_round 13 = .ok (.bipush 8, 2) := by decide +kernel
theorem dX9_round_15 : decode cX9_round 15 = .ok (.invokestatic 90, 3) := by decide +kernel
theorem dX9_round_18 : decode cX9_round 18 = .ok (.ifCond .eq 12, 3) := by decide +kernel
theorem dX9_round_21 : decode cX9_round 21 = .ok (.iload_n 3, 1) := by decide +kernel
theorem dX9_round_22 : decode cX9_round 22 = .ok (.iconst 0, 1) := by decide +kernel
theorem dX9_round_23 : decode cX9_round 23 = .ok (.iconst 1, 1) := by decide +kernel
theorem dX9_round_24 : decode cX9_round 24 = .ok (.invokestatic 90, 3) := by decide +kernel
theorem dX9_round_27 : decode cX9_round 27 = .ok (.ifCond .ne 5, 3) := by decide +kernel
theorem dX9_round_30 : decode cX9_round 30 = .ok (.iconst (-1), 1) := by decide +kernel
theorem dX9_round_31 : decode cX9_round 31 = .ok (.ireturn, 1) := by decide +kernel
theorem dX9_round_32 : decode cX9_round 32 = .ok (.aload_n 0, 1) := by decide +kernel
theorem dX9_round_33 : decode cX9_round 33 = .ok (.getfield 82, 3) := by decide +kernel
theorem dX9_round_36 : decode cX9_round 36 = .ok (.ifnonnull 14, 3) := by decide +kernel
theorem dX9_round_39 : decode cX9_round 39 = .ok (.aload_n 0, 1) := by decide +kernel
theorem dX9_round_40 : decode cX9_round 40 = .ok (.new 247, 3) := by decide +kernel
theorem dX9_round_43 : decode cX9_round 43 = .ok (.dup, 1) := by decide +kernel
theorem dX9_round_44 : decode cX9_round 44 = .ok (.invokespecial 249, 3) := by decide +kernel
theorem dX9_round_47 : decode cX9_round 47 = .ok (.putfield 82, 3) := by decide +kernel
theorem dX9_round_50 : decode cX9_round 50 = .ok (.aload_n 0, 1) := by decide +kernel
theorem dX9_round_51 : decode cX9_round 51 = .ok (.getfield 82, 3) := by decide +kernel
theorem dX9_round_54 : decode cX9_round 54 = .ok (.iload_n 1, 1) := by decide +kernel
theorem dX9_round_55 : decode cX9_round 55 = .ok (.iload_n 2, 1) := by decide +kernel
theorem dX9_round_56 : decode cX9_round 56 = .ok (.aload_n 0, 1) := by decide +kernel
theorem dX9_round_57 : decode cX9_round 57 = .ok (.getfield 26, 3) := by decide +kernel
theorem dX9_round_60 : decode cX9_round 60 = .ok (.getfield 98, 3) := by decide +kernel
theorem dX9_round_63 : decode cX9_round 63 = .ok (.aload_n 0, 1) := by decide +kernel
theorem dX9_round_64 : decode cX9_round 64 = .ok (.getfield 19, 3) := by decide +kernel
theorem dX9_round_67 : decode cX9_round 67 = .ok (.invokevirtual 250, 3) := by decide +kernel
theorem dX9_round_70 : decode cX9_round 70 = .ok (.istore 4, 2) := by decide +kernel
theorem dX9_round_72 : decode cX9_round 72 = .ok (.iload_n 3, 1) := by decide +kernel
theorem dX9_round_73 : decode cX9_round 73 = .ok (.ifCond .ne 18, 3) := by decide +kernel
theorem dX9_round_76 : decode cX9_round 76 = .ok (.aload_n 0, 1) := by decide +kernel
theorem dX9_round_77 : decode cX9_round 77 = .ok (.getfield 26, 3) := by decide +kernel
theorem dX9_round_80 : decode cX9_round 80 = .ok (.getfield 98, 3) := by decide +kernel
theorem dX9_round_83 : decode cX9_round 83 = .ok (.iload 4, 2) := by decide +kernel
theorem dX9_round_85 : decode cX9_round 85 = .ok (.invokestatic 254, 3) := by decide +kernel
theorem dX9_round_88 : decode cX9_round 88 = .ok (.goto 5, 3) := by decide +kernel
theorem dX9_round_91 : decode cX9_round 91 = .ok (.iload 4, 2) := by decide +kernel
theorem dX9_round_93 : decode cX9_round 93 = .ok (.ireturn, 1) := by decide +kernel
set_option maxRecDepth 20000 in
theorem ggX9_lanes_X9_within : GoodIn wsX9_lanes wsX9_within := goodIn_r _ [5] (by decide +kernel) (by decide +kernel)
set_option maxRecDepth 20000 in
theorem gX9_lanes_X9_within : GoodIn wsX9_lanes (va_wsS RX9 90 yX9_within wsX9_within) := goodIn_app (goodIn_of _ (by decide +kernel)) ggX9_lanes_X9_within
set_option maxRecDepth 20000 in
theorem ggX9_lanes_X1_lanesInAll : GoodIn wsX9_lanes wsX1_lanesInAll := goodIn_r _ [10, 11, 12, 4, 13, 14, 15, 16, 17, 18, 19, 20, 77, 78, 79, 80] (by decide +kernel) (by decide +kernel)
set_option maxRecDepth 20000 in
theorem gX9_lanes_X1_lanesInAll : GoodIn wsX9_lanes (wsV RX9 257 RX1 yX1_lanesInAll wsX1_lanesInAll) := goodIn_app (goodIn_of _ (by decide +kernel)) ggX9_lanes_X1_lanesInAll
set_option maxRecDepth 20000 in
theorem ggX9_lanes_X1_bridgesInAll : GoodIn wsX9_lanes wsX1_bridgesInAll := goodIn_r _ [24, 25, 26, 27, 9, 28, 11, 12, 4, 13, 29, 30, 2, 3, 5, 31, 32, 33, 34, 35, 36, 37, 38, 39, 40, 41, 42, 43, 44, 45, 46, 47, 48, 49, 50, 51, 52, 53, 54, 55, 56, 57, 77, 78, 79, 80] (by decide +kernel) (by decide +kernel)
set_option maxRecDepth 20000 in
theorem gX9_lanes_X1_bridgesInAll : GoodIn wsX9_lanes (wsV RX9 260 RX1 yX1_bridgesInAll wsX1_bridgesInAll) := goodIn_app (goodIn_of _ (by decide +kernel)) ggX9_lanes_X1_bridgesInAll
set_option maxRecDepth 20000 in
theorem ggX9_lanes_X1_firstBridge : GoodIn wsX9_lanes wsX1_firstBridge := goodIn_r _ [61, 25, 26, 27, 9, 28, 11, 12, 4, 13, 29, 30, 2, 3, 5, 31, 32, 33, 34, 35, 36, 37, 38, 39, 40, 41, 42, 43, 44, 45, 46, 47, 48, 49, 50, 51, 52, 53, 54, 55, 56, 57, 77, 78, 79, 80] (by decide +kernel) (by decide +kernel)
set_option maxRecDepth 20000 in
theorem gX9_lanes_X1_firstBridge : GoodIn wsX9_lanes (wsV RX9 263 RX1 yX1_firstBridge wsX1_firstBridge) := goodIn_app (goodIn_of _ (by decide +kernel)) ggX9_lanes_X1_firstBridge
theorem dX9_lanes_0 : decode cX9_lanes 0 = .ok (.iload_n 1, 1) := by decide +kernel
theorem dX9_lanes_1 : decode cX9_lanes 1 = .ok (.iconst 0, 1) := by decide +kernel
theorem dX9_lanes_2 : decode cX9_lanes 2 = .ok (.iconst 3, 1) := by decide +kernel
theorem dX9_lanes_3 : decode cX9_lanes 3 = .ok (.invokestatic 90, 3) := by decide +kernel
theorem dX9_lanes_6 : decode cX9_lanes 6 = .ok (.ifCond .ne 5, 3) := by decide +kernel
theorem dX9_lanes_9 : decode cX9_lanes 9 = .ok (.iconst (-1), 1) := by decide +kernel
theorem dX9_lanes_10 : decode cX9_lanes 10 = .ok (.ireturn, 1) := by decide +kernel
theorem dX9_lanes_11 : decode cX9_lanes 11 = .ok (.iload_n 1, 1) := by decide +kernel
theorem dX9_lanes_12 : decode cX9_lanes 12 = .ok (.ifCond .ne 11, 3) := by decide +kernel
theorem dX9_lanes_15 : decode cX9_lanes 15 = .ok (.aload_n 0, 1) := by decide +kernel
theorem dX9_lanes_16 : decode cX9_lanes 16 = .ok (.getfield 19, 3) := by decide +kernel
theorem dX9_lanes_19 : decode cX9_lanes 19 = .ok (.invokevirtual 257, 3) := by decide +kernel
theorem dX9_lanes_22 : decode cX9_lanes 22 = .ok (.ireturn, 1) := by decide +kernel
theorem dX9_lanes_23 : decode cX9_lanes 23 = .ok (.iload_n 1, 1) := by decide +kernel
theorem dX9_lanes_24 : decode cX9_lanes 24 = .ok (.iconst 1, 1) := by decide +kernel
theorem dX9_lanes_25 : decode cX9_lanes 25 = .ok (.if_icmp .ne 11, 3) := by decide +kernel
theorem dX9_lanes_28 : decode cX9_lanes 28 = .ok (.aload_n 0, 1) := by decide +kernel
theorem dX9_lanes_29 : decode cX9_lanes 29 = .ok (.getfield 19, 3) := by decide +kernel
theorem dX9_lanes_32 : decode cX9_lanes 32 = .ok (.invokevirtual 260, 3) := by decide +kernel
theorem dX9_lanes_35 : decode cX9_lanes 35 = .ok (.ireturn, 1) := by decide +kernel
theorem dX9_lanes_36 : decode cX9_lanes 36 = .ok (.aload_n 0, 1) := by decide +kernel
theorem dX9_lanes_37 : decode cX9_lanes 37 = .ok (.getfield 19, 3) := by decide +kernel
theorem dX9_lanes_40 : decode cX9_lanes 40 = .ok (.invokevirtual 263, 3) := by decide +kernel
theorem dX9_lanes_43 : decode cX9_lanes 43 = .ok (.istore_n 2, 1) := by decide +kernel
theorem dX9_lanes_44 : decode cX9_lanes 44 = .ok (.iload_n 2, 1) := by decide +kernel
theorem dX9_lanes_45 : decode cX9_lanes 45 = .ok (.ifCond .ge 6, 3) := by decide +kernel
theorem dX9_lanes_48 : decode cX9_lanes 48 = .ok (.bipush (-2), 2) := by decide +kernel
theorem dX9_lanes_50 : decode cX9_lanes 50 = .ok (.ireturn, 1) := by decide +kernel
theorem dX9_lanes_51 : decode cX9_lanes 51 = .ok (.iload_n 1, 1) := by decide +kernel
theorem dX9_lanes_52 : decode cX9_lanes 52 = .ok (.iconst 2, 1) := by decide +kernel
theorem dX9_lanes_53 : decode cX9_lanes 53 = .ok (.if_icmp .ne 10, 3) := by decide +kernel
theorem dX9_lanes_56 : decode cX9_lanes 56 = .ok (.iload_n 2, 1) := by decide +kernel
theorem dX9_lanes_57 : decode cX9_lanes 57 = .ok (.bipush 16, 2) := by decide +kernel
theorem dX9_lanes_59 : decode cX9_lanes 59 = .ok (.idiv, 1) := by decide +kernel
theorem dX9_lanes_60 : decode cX9_lanes 60 = .ok (.goto 7, 3) := by decide +kernel
theorem dX9_lanes_63 : decode cX9_lanes 63 = .ok (.iload_n 2, 1) := by decide +kernel
theorem dX9_lanes_64 : decode cX9_lanes 64 = .ok (.bipush 16, 2) := by decide +kernel
theorem dX9_lanes_66 : decode cX9_lanes 66 = .ok (.irem, 1) := by decide +kernel
theorem dX9_lanes_67 : decode cX9_lanes 67 = .ok (.ireturn, 1) := by decide +kernel
set_option maxRecDepth 20000 in
theorem ggX9_watches_X1_isTold : GoodIn wsX9_watches wsX1_isTold := goodIn_r _ [7, 8, 9, 10, 11, 12, 13, 14, 62, 63, 64, 65] (by decide +kernel) (by decide +kernel)
set_option maxRecDepth 20000 in
theorem gX9_watches_X1_isTold : GoodIn wsX9_watches (wsV RX9 108 RX1 yX1_isTold wsX1_isTold) := goodIn_app (goodIn_of _ (by decide +kernel)) ggX9_watches_X1_isTold
set_option maxRecDepth 20000 in
theorem ggX9_watches_X4_fewest : GoodIn wsX9_watches wsX4_fewest := goodIn_r _ [19, 20, 21, 22, 23, 24, 18, 25, 26, 27, 28, 29, 10, 30, 31, 12, 13, 14, 9, 11, 32, 33, 34, 35, 36, 37, 38, 66, 62, 63, 64, 65] (by decide +kernel) (by decide +kernel)
set_option maxRecDepth 20000 in
theorem gX9_watches_X4_fewest : GoodIn wsX9_watches (wsV RX9 266 RX4 yX4_fewest wsX4_fewest) := goodIn_app (goodIn_of _ (by decide +kernel)) ggX9_watches_X4_fewest
set_option maxRecDepth 20000 in
theorem ggX9_watches_X4_watchOf : GoodIn wsX9_watches wsX4_watchOf := goodIn_r _ [42, 22, 21, 20, 12, 10, 13, 14, 9, 11, 43, 44, 45, 18, 46, 32, 33, 37, 38, 23, 24, 25, 26, 27, 28, 29, 30, 31, 34, 35, 36, 62, 63, 64, 65, 66] (by decide +kernel) (by decide +kernel)
set_option maxRecDepth 20000 in
theorem gX9_watches_X4_watchOf : GoodIn wsX9_watches (wsV RX9 270 RX4 yX4_watchOf wsX4_watchOf) := goodIn_app (goodIn_of _ (by decide +kernel)) ggX9_watches_X4_watchOf
theorem dX9_watches_0 : decode cX9_watches 0 = .ok (.iload_n 1, 1) := by decide +kernel
theorem dX9_watches_1 : decode cX9_watches 1 = .ok (.bipush 100, 2) := by decide +kernel
theorem dX9_watches_3 : decode cX9_watches 3 = .ok (.if_icmp .eq 16, 3) := by decide +kernel
theorem dX9_watches_6 : decode cX9_watches 6 = .ok (.aload_n 0, 1) := by decide +kernel
theorem dX9_watches_7 : decode cX9_watches 7 = .ok (.getfield 19, 3) := by decide +kernel
theorem dX9_watches_10 : decode cX9_watches 10 = .ok (.iload_n 1, 1) := by decide +kernel
theorem dX9_watches_11 : decode cX9_watches 11 = .ok (.invokevirtual 108, 3) := by decide +kernel
theorem dX9_watches_14 : decode cX9_watches 14 = .ok (.ifCond .ne 5, 3) := by decide +kernel
theorem dX9_watches_17 : decode cX9_watches 17 = .ok (.iconst (-1), 1) := by decide +kernel
theorem dX9_watches_18 : decode cX9_watches 18 = .ok (.ireturn, 1) := by decide +kernel
theorem dX9_watches_19 : decode cX9_watches 19 = .ok (.aload_n 0, 1) := by decide +kernel
theorem dX9_watches_20 : decode cX9_watches 20 = .ok (.getfield 59, 3) := by decide +kernel
theorem dX9_watches_23 : decode cX9_watches 23 = .ok (.aload_n 0, 1) := by decide +kernel
theorem dX9_watches_24 : decode cX9_watches 24 = .ok (.getfield 19, 3) := by decide +kernel
theorem dX9_watches_27 : decode cX9_watches 27 = .ok (.invokevirtual 266, 3) := by decide +kernel
theorem dX9_watches_30 : decode cX9_watches 30 = .ok (.istore_n 2, 1) := by decide +kernel
theorem dX9_watches_31 : decode cX9_watches 31 = .ok (.iload_n 1, 1) := by decide +kernel
theorem dX9_watches_32 : decode cX9_watches 32 = .ok (.bipush 100, 2) := by decide +kernel
theorem dX9_watches_34 : decode cX9_watches 34 = .ok (.if_icmp .ne 7, 3) := by decide +kernel
theorem dX9_watches_37 : decode cX9_watches 37 = .ok (.iload_n 2, 1) := by decide +kernel
theorem dX9_watches_38 : decode cX9_watches 38 = .ok (.goto 16, 3) := by decide +kernel
theorem dX9_watches_41 : decode cX9_watches 41 = .ok (.aload_n 0, 1) := by decide +kernel
theorem dX9_watches_42 : decode cX9_watches 42 = .ok (.getfield 59, 3) := by decide +kernel
theorem dX9_watches_45 : decode cX9_watches 45 = .ok (.iload_n 1, 1) := by decide +kernel
theorem dX9_watches_46 : decode cX9_watches 46 = .ok (.iload_n 2, 1) := by decide +kernel
theorem dX9_watches_47 : decode cX9_watches 47 = .ok (.aload_n 0, 1) := by decide +kernel
theorem dX9_watches_48 : decode cX9_watches 48 = .ok (.getfield 19, 3) := by decide +kernel
theorem dX9_watches_51 : decode cX9_watches 51 = .ok (.invokevirtual 270, 3) := by decide +kernel
theorem dX9_watches_54 : decode cX9_watches 54 = .ok (.ireturn, 1) := by decide +kernel
set_option maxRecDepth 20000 in
theorem ggX9_alibis_X9_within : GoodIn wsX9_alibis wsX9_within := goodIn_r _ [6] (by decide +kernel) (by decide +kernel)
set_option maxRecDepth 20000 in
theorem gX9_alibis_X9_within : GoodIn wsX9_alibis (va_wsS RX9 90 yX9_within wsX9_within) := goodIn_app (goodIn_of _ (by decide +kernel)) ggX9_alibis_X9_within
set_option maxRecDepth 20000 in
theorem ggX9_alibis_X1_isTold : GoodIn wsX9_alibis wsX1_isTold := goodIn_r _ [11, 12, 4, 5, 6, 13, 14, 3, 75, 76, 77, 78] (by decide +kernel) (by decide +kernel)
set_option maxRecDepth 20000 in
theorem gX9_alibis_X1_isTold : GoodIn wsX9_alibis (wsV RX9 108 RX1 yX1_isTold wsX1_isTold) := goodIn_app (goodIn_of _ (by decide +kernel)) ggX9_alibis_X1_isTold
set_option maxRecDepth 20000 in
theorem ggX9_alibis_X7_holds : GoodIn wsX9_alibis wsX7_holds := goodIn_r _ [19, 20, 79, 80, 81, 82, 83, 84] (by decide +kernel) (by decide +kernel)
set_option maxRecDepth 20000 in
theorem gX9_alibis_X7_holds : GoodIn wsX9_alibis (wsV RX9 132 RX7 yX7_holds wsX7_holds) := goodIn_app (goodIn_of _ (by decide +kernel)) ggX9_alibis_X7_holds
set_option maxRecDepth 20000 in
theorem ggX9_alibis_X7_open : GoodIn wsX9_alibis wsX7_open := goodIn_r _ [24, 20, 25, 26, 27, 28, 79, 80, 81, 82, 83, 84] (by decide +kernel) (by decide +kernel)
set_option maxRecDepth 20000 in
theorem gX9_alibis_X7_open : GoodIn wsX9_alibis (wsV RX9 135 RX7 yX7_open wsX7_open) := goodIn_app (goodIn_of _ (by decide +kernel)) ggX9_alibis_X7_open
set_option maxRecDepth 20000 in
theorem ggX9_alibis_X7_byteAt : GoodIn wsX9_alibis wsX7_byteAt := goodIn_r _ [32, 25, 33, 34, 5, 35, 79, 80, 81, 82, 83, 84] (by decide +kernel) (by decide +kernel)
set_option maxRecDepth 20000 in
theorem gX9_alibis_X7_byteAt : GoodIn wsX9_alibis (wsV RX9 224 RX7 yX7_byteAt wsX7_byteAt) := goodIn_app (goodIn_of _ (by decide +kernel)) ggX9_alibis_X7_byteAt
set_option maxRecDepth 20000 in
theorem ggX9_alibis_X1_measure : GoodIn wsX9_alibis wsX1_measure := goodIn_r _ [39, 40, 13, 5, 14, 3, 4, 6, 41, 42, 43, 44, 45, 10, 46, 47, 48, 49, 50, 51, 34, 35, 75, 76, 77, 78] (by decide +kernel) (by decide +kernel)
set_option maxRecDepth 20000 in
theorem gX9_alibis_X1_measure : GoodIn wsX9_alibis (wsV RX9 230 RX1 yX1_measure wsX1_measure) := goodIn_app (goodIn_of _ (by decide +kernel)) ggX9_alibis_X1_measure
set_option maxRecDepth 20000 in
theorem ggX9_alibis_X9_reaches : GoodIn wsX9_alibis wsX9_reaches := goodIn_r _ [55, 1, 56, 57, 58, 10, 59, 40, 4, 5, 6, 34, 35, 60, 61, 62, 63, 64, 65, 66, 67, 68, 69, 70, 71, 72, 73, 74, 75, 76, 77, 78] (by decide +kernel) (by decide +kernel)
set_option maxRecDepth 20000 in
theorem gX9_alibis_X9_reaches : GoodIn wsX9_alibis (wsV RX9 274 RX9 yX9_reaches wsX9_reaches) := goodIn_app (goodIn_of _ (by decide +kernel)) ggX9_alibis_X9_reaches
theorem dX9_alibis_0 : decode cX9_alibis 0 = .ok (.iload_n 1, 1) := by decide +kernel
theorem dX9_alibis_1 : decode cX9_alibis 1 = .ok (.iconst 1, 1) := by decide +kernel
theorem dX9_alibis_2 : decode cX9_alibis 2 = .ok (.bipush 10, 2) := by decide +kernel
theorem dX9_alibis_4 : decode cX9_alibis 4 = .ok (.invokestatic 90, 3) := by decide +kernel
theorem dX9_alibis_7 : decode cX9_alibis 7 = .ok (.ifCond .eq 38, 3) := by decide +kernel
theorem dX9_alibis_10 : decode cX9_alibis 10 = .ok (.aload_n 0, 1) := by decide +kernel
theorem dX9_alibis_11 : decode cX9_alibis 11 = .ok (.getfield 19, 3) := by decide +kernel
theorem dX9_alibis_14 : decode cX9_alibis 14 = .ok (.iload_n 2, 1) := by decide +kernel
theorem dX9_alibis_15 : decode cX9_alibis 15 = .ok (.invokevirtual 108, 3) := by decide +kernel
theorem dX9_alibis_18 : decode cX9_alibis 18 = .ok (.ifCond .eq 27, 3) := by decide +kernel
theorem dX9_alibis_21 : decode cX9_alibis 21 = .ok (.iload_n 3, 1) := by decide +kernel
theorem dX9_alibis_22 : decode cX9_alibis 22 = .ok (.iconst 0, 1) := by decide +kernel
theorem dX9_alibis_23 : decode cX9_alibis 23 = .ok (.sipush 255, 3) := by decide +kernel
theorem dX9_alibis_26 : decode cX9_alibis 26 = .ok (.invokestatic 90, 3) := by decide +kernel
theorem dX9_alibis_29 : decode cX9_alibis 29 = .ok (.ifCond .eq 16, 3) := by decide +kernel
theorem dX9_alibis_32 : decode cX9_alibis 32 = .ok (.aload_n 0, 1) := by decide +kernel
theorem dX9_alibis_33 : decode cX9_alibis 33 = .ok (.getfield 10, 3) := by decide +kernel
theorem dX9_alibis_36 : decode cX9_alibis 36 = .ok (.iconst 4, 1) := by decide +kernel
theorem dX9_alibis_37 : decode cX9_alibis 37 = .ok (.iload_n 1, 1) := by decide +kernel
theorem dX9_alibis_38 : decode cX9_alibis 38 = .ok (.imul, 1) := by decide +kernel
theorem dX9_alibis_39 : decode cX9_alibis 39 = .ok (.invokevirtual 132, 3) := by decide +kernel
theorem dX9_alibis_42 : decode cX9_alibis 42 = .ok (.ifCond .ne 5, 3) := by decide +kernel
theorem dX9_alibis_45 : decode cX9_alibis 45 = .ok (.iconst (-1), 1) := by decide +kernel
theorem dX9_alibis_46 : decode cX9_alibis 46 = .ok (.ireturn, 1) := by decide +kernel
theorem dX9_alibis_47 : decode cX9_alibis 47 = .ok (.aload_n 0, 1) := by decide +kernel
theorem dX9_alibis_48 : decode cX9_alibis 48 = .ok (.getfield 10, 3) := by decide +kernel
theorem dX9_alibis_51 : decode cX9_alibis 51 = .ok (.iconst 4, 1) := by decide +kernel
theorem dX9_alibis_52 : decode cX9_alibis 52 = .ok (.iload_n 1, 1) := by decide +kernel
theorem dX9_alibis_53 : decode cX9_alibis 53 = .ok (.imul, 1) := by decide +kernel
theorem dX9_alibis_54 : decode cX9_alibis 54 = .ok (.invokevirtual 135, 3) := by decide +kernel
theorem dX9_alibis_57 : decode cX9_alibis 57 = .ok (.iconst 0, 1) := by decide +kernel
theorem dX9_alibis_58 : decode cX9_alibis 58 = .ok (.istore 4, 2) := by decide +kernel
theorem dX9_alibis_60 : decode cX9_alibis 60 = .ok (.iload 4, 2) := by decide +kernel
theorem dX9_alibis_62 : decode cX9_alibis 62 = .ok (.iload_n 1, 1) := by decide +kernel
theorem dX9_alibis_63 : decode cX9_alibis 63 = .ok (.if_icmp .ge 56, 3) := by decide +kernel
theorem dX9_alibis_66 : decode cX9_alibis 66 = .ok (.aload_n 0, 1) := by decide +kernel
theorem dX9_alibis_67 : decode cX9_alibis 67 = .ok (.getfield 19, 3) := by decide +kernel
theorem dX9_alibis_70 : decode cX9_alibis 70 = .ok (.aload_n 0, 1) := by decide +kernel
theorem dX9_alibis_71 : decode cX9_alibis 71 = .ok (.getfield 10, 3) := by decide +kernel
theorem dX9_alibis_74 : decode cX9_alibis 74 = .ok (.iconst 4, 1) := by decide +kernel
theorem dX9_alibis_75 : decode cX9_alibis 75 = .ok (.iload 4, 2) := by decide +kernel
theorem dX9_alibis_77 : decode cX9_alibis 77 = .ok (.imul, 1) := by decide +kernel
theorem dX9_alibis_78 : decode cX9_alibis 78 = .ok (.invokevirtual 224, 3) := by decide +kernel
theorem dX9_alibis_81 : decode cX9_alibis 81 = .ok (.invokevirtual 108, 3) := by decide +kernel
theorem dX9_alibis_84 : decode cX9_alibis 84 = .ok (.ifCond .eq 26, 3) := by decide +kernel
theorem dX9_alibis_87 : decode cX9_alibis 87 = .ok (.aload_n 0, 1) := by decide +kernel
theorem dX9_alibis_88 : decode cX9_alibis 88 = .ok (.getfield 19, 3) := by decide +kernel
theorem dX9_alibis_91 : decode cX9_alibis 91 = .ok (.aload_n 0, 1) := by decide +kernel
theorem dX9_alibis_92 : decode cX9_alibis 92 = .ok (.getfield 10, 3) := by decide +kernel
theorem dX9_alibis_95 : decode cX9_alibis 95 = .ok (.iconst 4, 1) := by decide +kernel
theorem dX9_alibis_96 : decode cX9_alibis 96 = .ok (.iload 4, 2) := by decide +kernel
theorem dX9_alibis_98 : decode cX9_alibis 98 = .ok (.imul, 1) := by decide +kernel
theorem dX9_alibis_99 : decode cX9_alibis 99 = .ok (.iconst 2, 1) := by decide +kernel
theorem dX9_alibis_100 : decode cX9_alibis 100 = .ok (.iadd, 1) := by decide +kernel
theorem dX9_alibis_101 : decode cX9_alibis 101 = .ok (.invokevirtual 224, 3) := by decide +kernel
theorem dX9_alibis_104 : decode cX9_alibis 104 = .ok (.invokevirtual 108, 3) := by decide +kernel
theorem dX9_alibis_107 : decode cX9_alibis 107 = .ok (.ifCond .ne 6, 3) := by decide +kernel
theorem dX9_alibis_110 : decode cX9_alibis 110 = .ok (.bipush (-2), 2) := by decide +kernel
theorem dX9_alibis_112 : decode cX9_alibis 112 = .ok (.ireturn, 1) := by decide +kernel
theorem dX9_alibis_113 : decode cX9_alibis 113 = .ok (.iinc 4 1, 3) := by decide +kernel
theorem dX9_alibis_116 : decode cX9_alibis 116 = .ok (.goto (-56), 3) := by decide +kernel
theorem dX9_alibis_119 : decode cX9_alibis 119 = .ok (.aload_n 0, 1) := by decide +kernel
theorem dX9_alibis_120 : decode cX9_alibis 120 = .ok (.getfield 19, 3) := by decide +kernel
theorem dX9_alibis_123 : decode cX9_alibis 123 = .ok (.iload_n 2, 1) := by decide +kernel
theorem dX9_alibis_124 : decode cX9_alibis 124 = .ok (.invokevirtual 230, 3) := by decide +kernel
theorem dX9_alibis_127 : decode cX9_alibis 127 = .ok (.iconst 0, 1) := by decide +kernel
theorem dX9_alibis_128 : decode cX9_alibis 128 = .ok (.istore 4, 2) := by decide +kernel
theorem dX9_alibis_130 : decode cX9_alibis 130 = .ok (.iconst 0, 1) := by decide +kernel
theorem dX9_alibis_131 : decode cX9_alibis 131 = .ok (.istore 5, 2) := by decide +kernel
theorem dX9_alibis_133 : decode cX9_alibis 133 = .ok (.iload 5, 2) := by decide +kernel
theorem dX9_alibis_135 : decode cX9_alibis 135 = .ok (.iload_n 1, 1) := by decide +kernel
theorem dX9_alibis_136 : decode cX9_alibis 136 = .ok (.if_icmp .ge 94, 3) := by decide +kernel
theorem dX9_alibis_139 : decode cX9_alibis 139 = .ok (.aload_n 0, 1) := by decide +kernel
theorem dX9_alibis_140 : decode cX9_alibis 140 = .ok (.aload_n 0, 1) := by decide +kernel
theorem dX9_alibis_141 : decode cX9_alibis 141 = .ok (.getfield 10, 3) := by decide +kernel
theorem dX9_alibis_144 : decode cX9_alibis 144 = .ok (.iconst 4, 1) := by decide +kernel
theorem dX9_alibis_145 : decode cX9_alibis 145 = .ok (.iload 5, 2) := by decide +kernel
theorem dX9_alibis_147 : decode cX9_alibis 147 = .ok (.imul, 1) := by decide +kernel
theorem dX9_alibis_148 : decode cX9_alibis 148 = .ok (.invokevirtual 224, 3) := by decide +kernel
theorem dX9_alibis_151 : decode cX9_alibis 151 = .ok (.iload_n 3, 1) := by decide +kernel
theorem dX9_alibis_152 : decode cX9_alibis 152 = .ok (.aload_n 0, 1) := by decide +kernel
theorem dX9_alibis_153 : decode cX9_alibis 153 = .ok (.getfield 10, 3) := by decide +kernel
theorem dX9_alibis_156 : decode cX9_alibis 156 = .ok (.iconst 4, 1) := by decide +kernel
theorem dX9_alibis_157 : decode cX9_alibis 157 = .ok (.iload 5, 2) := by decide +kernel
theorem dX9_alibis_159 : decode cX9_alibis 159 = .ok (.imul, 1) := by decide +kernel
theorem dX9_alibis_160 : decode cX9_alibis 160 = .ok (.iconst 1, 1) := by decide +kernel
theorem dX9_alibis_161 : decode cX9_alibis 161 = .ok (.iadd, 1) := by decide +kernel
theorem dX9_alibis_162 : decode cX9_alibis 162 = .ok (.invokevirtual 224, 3) := by decide +kernel
theorem dX9_alibis_165 : decode cX9_alibis 165 = .ok (.isub, 1) := by decide +kernel
theorem dX9_alibis_166 : decode cX9_alibis 166 = .ok (.invokevirtual 274, 3) := by decide +kernel
theorem dX9_alibis_169 : decode cX9_alibis 169 = .ok (.istore 6, 2) := by decide +kernel
theorem dX9_alibis_171 : decode cX9_alibis 171 = .ok (.aload_n 0, 1) := by decide +kernel
theorem dX9_alibis_172 : decode cX9_alibis 172 = .ok (.aload_n 0, 1) := by decide +kernel
theorem dX9_alibis_173 : decode cX9_alibis 173 = .ok (.getfield 10, 3) := by decide +kernel
theorem dX9_alibis_176 : decode cX9_alibis 176 = .ok (.iconst 4, 1) := by decide +kernel
theorem dX9_alibis_177 : decode cX9_alibis 177 = .ok (.iload 5, 2) := by decide +kernel
theorem dX9_alibis_179 : decode cX9_alibis 179 = .ok (.imul, 1) := by decide +kernel
theorem dX9_alibis_180 : decode cX9_alibis 180 = .ok (.iconst 2, 1) := by decide +kernel
theorem dX9_alibis_181 : decode cX9_alibis 181 = .ok (.iadd, 1) := by decide +kernel
theorem dX9_alibis_182 : decode cX9_alibis 182 = .ok (.invokevirtual 224, 3) := by decide +kernel
theorem dX9_alibis_185 : decode cX9_alibis 185 = .ok (.aload_n 0, 1) := by decide +kernel
theorem dX9_alibis_186 : decode cX9_alibis 186 = .ok (.getfield 10, 3) := by decide +kernel
theorem dX9_alibis_189 : decode cX9_alibis 189 = .ok (.iconst 4, 1) := by decide +kernel
theorem dX9_alibis_190 : decode cX9_alibis 190 = .ok (.iload 5, 2) := by decide +kernel
theorem dX9_alibis_192 : decode cX9_alibis 192 = .ok (.imul, 1) := by decide +kernel
theorem dX9_alibis_193 : decode cX9_alibis 193 = .ok (.iconst 3, 1) := by decide +kernel
theorem dX9_alibis_194 : decode cX9_alibis 194 = .ok (.iadd, 1) := by decide +kernel
theorem dX9_alibis_195 : decode cX9_alibis 195 = .ok (.invokevirtual 224, 3) := by decide +kernel
theorem dX9_alibis_198 : decode cX9_alibis 198 = .ok (.iload_n 3, 1) := by decide +kernel
theorem dX9_alibis_199 : decode cX9_alibis 199 = .ok (.isub, 1) := by decide +kernel
theorem dX9_alibis_200 : decode cX9_alibis 200 = .ok (.invokevirtual 274, 3) := by decide +kernel
theorem dX9_alibis_203 : decode cX9_alibis 203 = .ok (.istore 7, 2) := by decide +kernel
theorem dX9_alibis_205 : decode cX9_alibis 205 = .ok (.iload 6, 2) := by decide +kernel
theorem dX9_alibis_207 : decode cX9_alibis 207 = .ok (.ifCond .eq 17, 3) := by decide +kernel
theorem dX9_alibis_210 : decode cX9_alibis 210 = .ok (.iload 7, 2) := by decide +kernel
theorem dX9_alibis_212 : decode cX9_alibis 212 = .ok (.ifCond .eq 12, 3) := by decide +kernel
theorem dX9_alibis_215 : decode cX9_alibis 215 = .ok (.iload 4, 2) := by decide +kernel
theorem dX9_alibis_217 : decode cX9_alibis 217 = .ok (.iconst 1, 1) := by decide +kernel
theorem dX9_alibis_218 : decode cX9_alibis 218 = .ok (.iload 5, 2) := by decide +kernel
theorem dX9_alibis_220 : decode cX9_alibis 220 = .ok (.ishl, 1) := by decide +kernel
theorem dX9_alibis_221 : decode cX9_alibis 221 = .ok (.ior, 1) := by decide +kernel
theorem dX9_alibis_222 : decode cX9_alibis 222 = .ok (.istore 4, 2) := by decide +kernel
theorem dX9_alibis_224 : decode cX9_alibis 224 = .ok (.iinc 5 1, 3) := by decide +kernel
theorem dX9_alibis_227 : decode cX9_alibis 227 = .ok (.goto (-94), 3) := by decide +kernel
theorem dX9_alibis_230 : decode cX9_alibis 230 = .ok (.iload 4, 2) := by decide +kernel
theorem dX9_alibis_232 : decode cX9_alibis 232 = .ok (.ireturn, 1) := by decide +kernel
set_option maxRecDepth 20000 in
theorem ggX9_reaches_X1_stepsTo : GoodIn wsX9_reaches wsX1_stepsTo := goodIn_r _ [6, 7, 8, 9, 10, 11, 12, 28, 29, 30, 31] (by decide +kernel) (by decide +kernel)
set_option maxRecDepth 20000 in
theorem gX9_reaches_X1_stepsTo : GoodIn wsX9_reaches (wsV RX9 233 RX1 yX1_stepsTo wsX1_stepsTo) := goodIn_app (goodIn_of _ (by decide +kernel)) ggX9_reaches_X1_stepsTo
theorem dX9_reaches_0 : decode cX9_reaches 0 = .ok (.aload_n 0, 1) := by decide +kernel
theorem dX9_reaches_1 : decode cX9_reaches 1 = .ok (.getfield 19, 3) := by decide +kernel
theorem dX9_reaches_4 : decode cX9_reaches 4 = .ok (.iload_n 1, 1) := by decide +kernel
theorem dX9_reaches_5 : decode cX9_reaches 5 = .ok (.invokevirtual 233, 3) := by decide +kernel
theorem dX9_reaches_8 : decode cX9_reaches 8 = .ok (.istore_n 3, 1) := by decide +kernel
theorem dX9_reaches_9 : decode cX9_reaches 9 = .ok (.iload_n 3, 1) := by decide +kernel
theorem dX9_reaches_10 : decode cX9_reaches 10 = .ok (.ifCond .lt 12, 3) := by decide +kernel
theorem dX9_reaches_13 : decode cX9_reaches 13 = .ok (.iload_n 3, 1) := by decide +kernel
theorem dX9_reaches_14 : decode cX9_reaches 14 = .ok (.iload_n 2, 1) := by decide +kernel
theorem dX9_reaches_15 : decode cX9_reaches 15 = .ok (.if_icmp .gt 7, 3) := by decide +kernel
theorem dX9_reaches_18 : decode cX9_reaches 18 = .ok (.iconst 1, 1) := by decide +kernel
theorem dX9_reaches_19 : decode cX9_reaches 19 = .ok (.goto 4, 3) := by decide +kernel
theorem dX9_reaches_22 : decode cX9_reaches 22 = .ok (.iconst 0, 1) := by decide +kernel
theorem dX9_reaches_23 : decode cX9_reaches 23 = .ok (.ireturn, 1) := by decide +kernel
set_option maxRecDepth 20000 in
theorem ggX9_bench_X9_within : GoodIn wsX9_bench wsX9_within := goodIn_r _ [5] (by decide +kernel) (by decide +kernel)
set_option maxRecDepth 20000 in
theorem gX9_bench_X9_within : GoodIn wsX9_bench (va_wsS RX9 90 yX9_within wsX9_within) := goodIn_app (goodIn_of _ (by decide +kernel)) ggX9_bench_X9_within
set_option maxRecDepth 20000 in
theorem ggX9_bench_X7_holds : GoodIn wsX9_bench wsX7_holds := goodIn_r _ [10, 11, 70, 71, 72, 73, 74, 75] (by decide +kernel) (by decide +kernel)
set_option maxRecDepth 20000 in
theorem gX9_bench_X7_holds : GoodIn wsX9_bench (wsV RX9 132 RX7 yX7_holds wsX7_holds) := goodIn_app (goodIn_of _ (by decide +kernel)) ggX9_bench_X7_holds
set_option maxRecDepth 20000 in
theorem ggX9_bench_X7_open : GoodIn wsX9_bench wsX7_open := goodIn_r _ [15, 11, 16, 17, 18, 19, 70, 71, 72, 73, 74, 75] (by decide +kernel) (by decide +kernel)
set_option maxRecDepth 20000 in
theorem gX9_bench_X7_open : GoodIn wsX9_bench (wsV RX9 135 RX7 yX7_open wsX7_open) := goodIn_app (goodIn_of _ (by decide +kernel)) ggX9_bench_X7_open
set_option maxRecDepth 20000 in
theorem ggX9_bench_X9_takesRanking : GoodIn wsX9_bench wsX9_takesRanking := goodIn_r _ [23, 1, 24, 25, 26, 27, 9, 28, 16, 29, 30, 4, 31, 32, 33, 34, 2, 3, 5, 35, 36, 37, 55, 56, 57, 58, 59, 60, 61, 62, 63, 64, 65, 66, 67, 68, 69, 70, 71, 72, 73, 74, 75] (by decide +kernel) (by decide +kernel)
set_option maxRecDepth 20000 in
theorem gX9_bench_X9_takesRanking : GoodIn wsX9_bench (wsV RX9 278 RX9 yX9_takesRanking wsX9_takesRanking) := goodIn_app (goodIn_of _ (by decide +kernel)) ggX9_bench_X9_takesRanking
set_option maxRecDepth 20000 in
theorem ggX9_bench_X9_beatsAllOthers : GoodIn wsX9_bench wsX9_beatsAllOthers := goodIn_r _ [41, 42, 43, 44, 4, 45, 24, 46, 30, 31, 55, 56, 57, 58, 59, 60, 61, 62, 63, 64, 65, 66, 67, 68, 69] (by decide +kernel) (by decide +kernel)
set_option maxRecDepth 20000 in
theorem gX9_bench_X9_beatsAllOthers : GoodIn wsX9_bench (wsV RX9 281 RX9 yX9_beatsAllOthers wsX9_beatsAllOthers) := goodIn_app (goodIn_of _ (by decide +kernel)) ggX9_bench_X9_beatsAllOthers
set_option maxRecDepth 20000 in
theorem ggX9_bench_X9_fewestPlaces : GoodIn wsX9_bench wsX9_fewestPlaces := goodIn_r _ [50, 24, 46, 30, 4, 31, 55, 56, 57, 58, 59, 60, 61, 62, 63, 64, 65, 66, 67, 68, 69] (by decide +kernel) (by decide +kernel)
set_option maxRecDepth 20000 in
theorem gX9_bench_X9_fewestPlaces : GoodIn wsX9_bench (wsV RX9 284 RX9 yX9_fewestPlaces wsX9_fewestPlaces) := goodIn_app (goodIn_of _ (by decide +kernel)) ggX9_bench_X9_fewestPlaces
set_option maxRecDepth 20000 in
theorem ggX9_bench_X9_twosAlike : GoodIn wsX9_bench wsX9_twosAlike := goodIn_r _ [54, 42, 43, 44, 4, 45, 24, 46, 30, 31, 55, 56, 57, 58, 59, 60, 61, 62, 63, 64, 65, 66, 67, 68, 69] (by decide +kernel) (by decide +kernel)
set_option maxRecDepth 20000 in
theorem gX9_bench_X9_twosAlike : GoodIn wsX9_bench (wsV RX9 287 RX9 yX9_twosAlike wsX9_twosAlike) := goodIn_app (goodIn_of _ (by decide +kernel)) ggX9_bench_X9_twosAlike
theorem dX9_bench_0 : decode cX9_bench 0 = .ok (.iload_n 1, 1) := by decide +kernel
theorem dX9_bench_1 : decode cX9_bench 1 = .ok (.iconst 2, 1) := by decide +kernel
theorem dX9_bench_2 : decode cX9_bench 2 = .ok (.bipush 6, 2) := by decide +kernel
theorem dX9_bench_4 : decode cX9_bench 4 = .ok (.invokestatic 90, 3) := by decide +kernel
theorem dX9_bench_7 : decode cX9_bench 7 = .ok (.ifCond .eq 35, 3) := by decide +kernel
theorem dX9_bench_10 : decode cX9_bench 10 = .ok (.iload_n 2, 1) := by decide +kernel
theorem dX9_bench_11 : decode cX9_bench 11 = .ok (.iconst 1, 1) := by decide +kernel
theorem dX9_bench_12 : decode cX9_bench 12 = .ok (.bipush 9, 2) := by decide +kernel
theorem dX9_bench_14 : decode cX9_bench 14 = .ok (.invokestatic 90, 3) := by decide +kernel
theorem dX9_bench_17 : decode cX9_bench 17 = .ok (.ifCond .eq 25, 3) := by decide +kernel
theorem dX9_bench_20 : decode cX9_bench 20 = .ok (.iload_n 3, 1) := by decide +kernel
theorem dX9_bench_21 : decode cX9_bench 21 = .ok (.iconst 0, 1) := by decide +kernel
theorem dX9_bench_22 : decode cX9_bench 22 = .ok (.iconst 2, 1) := by decide +kernel
theorem dX9_bench_23 : decode cX9_bench 23 = .ok (.invokestatic 90, 3) := by decide +kernel
theorem dX9_bench_26 : decode cX9_bench 26 = .ok (.ifCond .eq 16, 3) := by decide +kernel
theorem dX9_bench_29 : decode cX9_bench 29 = .ok (.aload_n 0, 1) := by decide +kernel
theorem dX9_bench_30 : decode cX9_bench 30 = .ok (.getfield 10, 3) := by decide +kernel
theorem dX9_bench_33 : decode cX9_bench 33 = .ok (.iload_n 1, 1) := by decide +kernel
theorem dX9_bench_34 : decode cX9_bench 34 = .ok (.iload_n 2, 1) := by decide +kernel
theorem dX9_bench_35 : decode cX9_bench 35 = .ok (.imul, 1) := by decide +kernel
theorem dX9_bench_36 : decode cX9_bench 36 = .ok (.invokevirtual 132, 3) := by decide +kernel
theorem dX9_bench_39 : decode cX9_bench 39 = .ok (.ifCond .ne 5, 3) := by decide +kernel
theorem dX9_bench_42 : decode cX9_bench 42 = .ok (.iconst (-1), 1) := by decide +kernel
theorem dX9_bench_43 : decode cX9_bench 43 = .ok (.ireturn, 1) := by decide +kernel
theorem dX9_bench_44 : decode cX9_bench 44 = .ok (.aload_n 0, 1) := by decide +kernel
theorem dX9_bench_45 : decode cX9_bench 45 = .ok (.getfield 10, 3) := by decide +kernel
theorem dX9_bench_48 : decode cX9_bench 48 = .ok (.iload_n 1, 1) := by decide +kernel
theorem dX9_bench_49 : decode cX9_bench 49 = .ok (.iload_n 2, 1) := by decide +kernel
theorem dX9_bench_50 : decode cX9_bench 50 = .ok (.imul, 1) := by decide +kernel
theorem dX9_bench_51 : decode cX9_bench 51 = .ok (.invokevirtual 135, 3) := by decide +kernel
theorem dX9_bench_54 : decode cX9_bench 54 = .ok (.iconst 0, 1) := by decide +kernel
theorem dX9_bench_55 : decode cX9_bench 55 = .ok (.istore 4, 2) := by decide +kernel
theorem dX9_bench_57 : decode cX9_bench 57 = .ok (.iload 4, 2) := by decide +kernel
theorem dX9_bench_59 : decode cX9_bench 59 = .ok (.iload_n 2, 1) := by decide +kernel
theorem dX9_bench_60 : decode cX9_bench 60 = .ok (.if_icmp .ge 22, 3) := by decide +kernel
theorem dX9_bench_63 : decode cX9_bench 63 = .ok (.aload_n 0, 1) := by decide +kernel
theorem dX9_bench_64 : decode cX9_bench 64 = .ok (.iload_n 1, 1) := by decide +kernel
theorem dX9_bench_65 : decode cX9_bench 65 = .ok (.iload 4, 2) := by decide +kernel
theorem dX9_bench_67 : decode cX9_bench 67 = .ok (.invokevirtual 278, 3) := by decide +kernel
theorem dX9_bench_70 : decode cX9_bench 70 = .ok (.ifCond .ne 6, 3) := by decide +kernel
theorem dX9_bench_73 : decode cX9_bench 73 = .ok (.bipush (-3), 2) := by decide +kernel
theorem dX9_bench_75 : decode cX9_bench 75 = .ok (.ireturn, 1) := by decide +kernel
theorem dX9_bench_76 : decode cX9_bench 76 = .ok (.iinc 4 1, 3) := by decide +kernel
theorem dX9_bench_79 : decode cX9_bench 79 = .ok (.goto (-22), 3) := by decide +kernel
theorem dX9_bench_82 : decode cX9_bench 82 = .ok (.iload_n 3, 1) := by decide +kernel
theorem dX9_bench_83 : decode cX9_bench 83 = .ok (.ifCond .ne 10, 3) := by decide +kernel
theorem dX9_bench_86 : decode cX9_bench 86 = .ok (.aload_n 0, 1) := by decide +kernel
theorem dX9_bench_87 : decode cX9_bench 87 = .ok (.iload_n 1, 1) := by decide +kernel
theorem dX9_bench_88 : decode cX9_bench 88 = .ok (.iload_n 2, 1) := by decide +kernel
theorem dX9_bench_89 : decode cX9_bench 89 = .ok (.invokevirtual 281, 3) := by decide +kernel
theorem dX9_bench_92 : decode cX9_bench 92 = .ok (.ireturn, 1) := by decide +kernel
theorem dX9_bench_93 : decode cX9_bench 93 = .ok (.iload_n 3, 1) := by decide +kernel
theorem dX9_bench_94 : decode cX9_bench 94 = .ok (.iconst 1, 1) := by decide +kernel
theorem dX9_bench_95 : decode cX9_bench 95 = .ok (.if_icmp .ne 12, 3) := by decide +kernel
theorem dX9_bench_98 : decode cX9_bench 98 = .ok (.aload_n 0, 1) := by decide +kernel
theorem dX9_bench_99 : decode cX9_bench 99 = .ok (.iload_n 1, 1) := by decide +kernel
theorem dX9_bench_100 : decode cX9_bench 100 = .ok (.iload_n 2, 1) := by decide +kernel
theorem dX9_bench_101 : decode cX9_bench 101 = .ok (.invokevirtual 284, 3) := by decide +kernel
theorem dX9_bench_104 : decode cX9_bench 104 = .ok (.goto 9, 3) := by decide +kernel
theorem dX9_bench_107 : decode cX9_bench 107 = .ok (.aload_n 0, 1) := by decide +kernel
theorem dX9_bench_108 : decode cX9_bench 108 = .ok (.iload_n 1, 1) := by decide +kernel
theorem dX9_bench_109 : decode cX9_bench 109 = .ok (.iload_n 2, 1) := by decide +kernel
theorem dX9_bench_110 : decode cX9_bench 110 = .ok (.invokevirtual 287, 3) := by decide +kernel
theorem dX9_bench_113 : decode cX9_bench 113 = .ok (.ireturn, 1) := by decide +kernel
set_option maxRecDepth 20000 in
theorem ggX9_takesRanking_X7_byteAt : GoodIn wsX9_takesRanking wsX7_byteAt := goodIn_r _ [7, 8, 9, 10, 11, 12, 37, 38, 39, 40, 41, 42] (by decide +kernel) (by decide +kernel)
set_option maxRecDepth 20000 in
theorem gX9_takesRanking_X7_byteAt : GoodIn wsX9_takesRanking (wsV RX9 224 RX7 yX7_byteAt wsX7_byteAt) := goodIn_app (goodIn_of _ (by decide +kernel)) ggX9_takesRanking_X7_byteAt
set_option maxRecDepth 20000 in
theorem ggX9_takesRanking_X9_has : GoodIn wsX9_takesRanking wsX9_has := goodIn_r _ [15, 16, 17, 11, 18] (by decide +kernel) (by decide +kernel)
set_option maxRecDepth 20000 in
theorem gX9_takesRanking_X9_has : GoodIn wsX9_takesRanking (va_wsS RX9 290 yX9_has wsX9_has) := goodIn_app (goodIn_of _ (by decide +kernel)) ggX9_takesRanking_X9_has
set_option maxRecDepth 20000 in
theorem ggX9_takesRanking_X9_put : GoodIn wsX9_takesRanking wsX9_put := goodIn_r _ [21] (by decide +kernel) (by decide +kernel)
set_option maxRecDepth 20000 in
theorem gX9_takesRanking_X9_put : GoodIn wsX9_takesRanking (va_wsS RX9 101 yX9_put wsX9_put) := goodIn_app (goodIn_of _ (by decide +kernel)) ggX9_takesRanking_X9_put
theorem dX9_takesRanking_0 : decode cX9_takesRanking 0 = .ok (.iconst 0, 1) := by decide +kernel
theorem dX9_takesRanking_1 : decode cX9_takesRanking 1 = .ok (.istore_n 3, 1) := by decide +kernel
theorem dX9_takesRanking_2 : decode cX9_takesRanking 2 = .ok (.iconst 0, 1) := by decide +kernel
theorem dX9_takesRanking_3 : decode cX9_takesRanking 3 = .ok (.istore 4, 2) := by decide +kernel
theorem dX9_takesRanking_5 : decode cX9_takesRanking 5 = .ok (.iload 4, 2) := by decide +kernel
theorem dX9_takesRanking_7 : decode cX9_takesRanking 7 = .ok (.iload_n 1, 1) := by decide +kernel
theorem dX9_takesRanking_8 : decode cX9_takesRanking 8 = .ok (.if_icmp .ge 64, 3) := by decide +kernel
theorem dX9_takesRanking_11 : decode cX9_takesRanking 11 = .ok (.aload_n 0, 1) := by decide +kernel
theorem dX9_takesRanking_12 : decode cX9_takesRanking 12 = .ok (.getfield 10, 3) := by decide +kernel
theorem dX9_takesRanking_15 : decode cX9_takesRanking 15 = .ok (.iload_n 2, 1) := by decide +kernel
theorem dX9_takesRanking_16 : decode cX9_takesRanking 16 = .ok (.iload_n 1, 1) := by decide +kernel
theorem dX9_takesRanking_17 : decode cX9_takesRanking 17 = .ok (.imul, 1) := by decide +kernel
theorem dX9_takesRanking_18 : decode cX9_takesRanking 18 = .ok (.iload 4, 2) := by decide +kernel
theorem dX9_takesRanking_20 : decode cX9_takesRanking 20 = .ok (.iadd, 1) := by decide +kernel
theorem dX9_takesRanking_21 : decode cX9_takesRanking 21 = .ok (.invokevirtual 224, 3) := by decide +kernel
theorem dX9_takesRanking_24 : decode cX9_takesRanking 24 = .ok (.istore 5, 2) := by decide +kernel
theorem dX9_takesRanking_26 : decode cX9_takesRanking 26 = .ok (.iload 5, 2) := by decide +kernel
theorem dX9_takesRanking_28 : decode cX9_takesRanking 28 = .ok (.iload_n 1, 1) := by decide +kernel
theorem dX9_takesRanking_29 : decode cX9_takesRanking 29 = .ok (.if_icmp .ge 12, 3) := by decide +kernel
theorem dX9_takesRanking_32 : decode cX9_takesRanking 32 = .ok (.iload_n 3, 1) := by decide +kernel
theorem dX9_takesRanking_33 : decode cX9_takesRanking 33 = .ok (.iload 5, 2) := by decide +kernel
theorem dX9_takesRanking_35 : decode cX9_takesRanking 35 = .ok (.invokestatic 290, 3) := by decide +kernel
theorem dX9_takesRanking_38 : decode cX9_takesRanking 38 = .ok (.ifCond .eq 5, 3) := by decide +kernel
theorem dX9_takesRanking_41 : decode cX9_takesRanking 41 = .ok (.iconst 0, 1) := by decide +kernel
theorem dX9_takesRanking_42 : decode cX9_takesRanking 42 = .ok (.ireturn, 1) := by decide +kernel
theorem dX9_takesRanking_43 : decode cX9_takesRanking 43 = .ok (.iload_n 3, 1) := by decide +kernel
theorem dX9_takesRanking_44 : decode cX9_takesRanking 44 = .ok (.iconst 1, 1) := by decide +kernel
theorem dX9_takesRanking_45 : decode cX9_takesRanking 45 = .ok (.iload 5, 2) := by decide +kernel
theorem dX9_takesRanking_47 : decode cX9_takesRanking 47 = .ok (.ishl, 1) := by decide +kernel
theorem dX9_takesRanking_48 : decode cX9_takesRanking 48 = .ok (.ior, 1) := by decide +kernel
theorem dX9_takesRanking_49 : decode cX9_takesRanking 49 = .ok (.istore_n 3, 1) := by decide +kernel
theorem dX9_takesRanking_50 : decode cX9_takesRanking 50 = .ok (.aload_n 0, 1) := by decide +kernel
theorem dX9_takesRanking_51 : decode cX9_takesRanking 51 = .ok (.getfield 63, 3) := by decide +kernel
theorem dX9_takesRanking_54 : decode cX9_takesRanking 54 = .ok (.iload_n 2, 1) := by decide +kernel
theorem dX9_takesRanking_55 : decode cX9_takesRanking 55 = .ok (.bipush 6, 2) := by decide +kernel
theorem dX9_takesRanking_57 : decode cX9_takesRanking 57 = .ok (.imul, 1) := by decide +kernel
theorem dX9_takesRanking_58 : decode cX9_takesRanking 58 = .ok (.iload 5, 2) := by decide +kernel
theorem dX9_takesRanking_60 : decode cX9_takesRanking 60 = .ok (.iadd, 1) := by decide +kernel
theorem dX9_takesRanking_61 : decode cX9_takesRanking 61 = .ok (.iload 4, 2) := by decide +kernel
theorem dX9_takesRanking_63 : decode cX9_takesRanking 63 = .ok (.invokestatic 101, 3) := by decide +kernel
theorem dX9_takesRanking_66 : decode cX9_takesRanking 66 = .ok (.iinc 4 1, 3) := by decide +kernel
theorem dX9_takesRanking_69 : decode cX9_takesRanking 69 = .ok (.goto (-64), 3) := by decide +kernel
theorem dX9_takesRanking_72 : decode cX9_takesRanking 72 = .ok (.iconst 1, 1) := by decide +kernel
theorem dX9_takesRanking_73 : decode cX9_takesRanking 73 = .ok (.ireturn, 1) := by decide +kernel
set_option maxRecDepth 20000 in
theorem ggX9_judgesFor_X9_at : GoodIn wsX9_judgesFor wsX9_at := goodIn_r _ [5] (by decide +kernel) (by decide +kernel)
set_option maxRecDepth 20000 in
theorem gX9_judgesFor_X9_at : GoodIn wsX9_judgesFor (va_wsS RX9 188 yX9_at wsX9_at) := goodIn_app (goodIn_of _ (by decide +kernel)) ggX9_judgesFor_X9_at
theorem dX9_judgesFor_0 : decode cX9_judgesFor 0 = .ok (.iconst 0, 1) := by decide +kernel
theorem dX9_judgesFor_1 : decode cX9_judgesFor 1 = .ok (.istore 4, 2) := by decide +kernel
theorem dX9_judgesFor_3 : decode cX9_judgesFor 3 = .ok (.iconst 0, 1) := by decide +kernel
theorem dX9_judgesFor_4 : decode cX9_judgesFor 4 = .ok (.istore 5, 2) := by decide +kernel
theorem dX9_judgesFor_6 : decode cX9_judgesFor 6 = .ok (.iload 5, 2) := by decide +kernel
theorem dX9_judgesFor_8 : decode cX9_judgesFor 8 = .ok (.iload_n 3, 1) := by decide +kernel
theorem dX9_judgesFor_9 : decode cX9_judgesFor 9 = .ok (.if_icmp .ge 43, 3) := by decide +kernel
theorem dX9_judgesFor_12 : decode cX9_judgesFor 12 = .ok (.aload_n 0, 1) := by decide +kernel
theorem dX9_judgesFor_13 : decode cX9_judgesFor 13 = .ok (.getfield 63, 3) := by decide +kernel
theorem dX9_judgesFor_16 : decode cX9_judgesFor 16 = .ok (.iload 5, 2) := by decide +kernel
theorem dX9_judgesFor_18 : decode cX9_judgesFor 18 = .ok (.bipush 6, 2) := by decide +kernel
theorem dX9_judgesFor_20 : decode cX9_judgesFor 20 = .ok (.imul, 1) := by decide +kernel
theorem dX9_judgesFor_21 : decode cX9_judgesFor 21 = .ok (.iload_n 1, 1) := by decide +kernel
theorem dX9_judgesFor_22 : decode cX9_judgesFor 22 = .ok (.iadd, 1) := by decide +kernel
theorem dX9_judgesFor_23 : decode cX9_judgesFor 23 = .ok (.invokestatic 188, 3) := by decide +kernel
theorem dX9_judgesFor_26 : decode cX9_judgesFor 26 = .ok (.aload_n 0, 1) := by decide +kernel
theorem dX9_judgesFor_27 : decode cX9_judgesFor 27 = .ok (.getfield 63, 3) := by decide +kernel
theorem dX9_judgesFor_30 : decode cX9_judgesFor 30 = .ok (.iload 5, 2) := by decide +kernel
theorem dX9_judgesFor_32 : decode cX9_judgesFor 32 = .ok (.bipush 6, 2) := by decide +kernel
theorem dX9_judgesFor_34 : decode cX9_judgesFor 34 = .ok (.imul, 1) := by decide +kernel
theorem dX9_judgesFor_35 : decode cX9_judgesFor 35 = .ok (.iload_n 2, 1) := by decide +kernel
theorem dX9_judgesFor_36 : decode cX9_judgesFor 36 = .ok (.iadd, 1) := by decide +kernel
theorem dX9_judgesFor_37 : decode cX9_judgesFor 37 = .ok (.invokestatic 188, 3) := by decide +kernel
theorem dX9_judgesFor_40 : decode cX9_judgesFor 40 = .ok (.if_icmp .ge 6, 3) := by decide +kernel
theorem dX9_judgesFor_43 : decode cX9_judgesFor 43 = .ok (.iinc 4 1, 3) := by decide +kernel
theorem dX9_judgesFor_46 : decode cX9_judgesFor 46 = .ok (.iinc 5 1, 3) := by decide +kernel
theorem dX9_judgesFor_49 : decode cX9_judgesFor 49 = .ok (.goto (-43), 3) := by decide +kernel
theorem dX9_judgesFor_52 : decode cX9_judgesFor 52 = .ok (.iload 4, 2) := by decide +kernel
theorem dX9_judgesFor_54 : decode cX9_judgesFor 54 = .ok (.ireturn, 1) := by decide +kernel
set_option maxRecDepth 20000 in
theorem ggX9_beatsAllOthers_X9_judgesFor : GoodIn wsX9_beatsAllOthers wsX9_judgesFor := goodIn_r _ [5, 6, 7, 8, 4, 9, 10, 11, 12, 13, 14, 15, 16, 17, 18, 19, 20, 21, 22, 23, 24] (by decide +kernel) (by decide +kernel)
set_option maxRecDepth 20000 in
theorem gX9_beatsAllOthers_X9_judgesFor : GoodIn wsX9_beatsAllOthers (wsV RX9 293 RX9 yX9_judgesFor wsX9_judgesFor) := goodIn_app (goodIn_of _ (by decide +kernel)) ggX9_beatsAllOthers_X9_judgesFor
theorem dX9_beatsAllOthers_0 : decode cX9_beatsAllOthers 0 = .ok (.iconst 0, 1) := by decide +kernel
theorem dX9_beatsAllOthers_1 : decode cX9_beatsAllOthers 1 = .ok (.istore_n 3, 1) := by decide +kernel
theorem dX9_beatsAllOthers_2 : decode cX9_beatsAllOthers 2 = .ok (.iload_n 3, 1) := by decide +kernel
theorem dX9_beatsAllOthers_3 : decode cX9_beatsAllOthers 3 = .ok (.iload_n 1, 1) := by decide +kernel
theorem dX9_beatsAllOthers_4 : decode cX9_beatsAllOthers 4 = .ok (.if_icmp .ge 60, 3) := by decide +kernel
theorem dX9_beatsAllOthers_7 : decode cX9_beatsAllOthers 7 = .ok (.iconst 0, 1) := by decide +kernel
theorem dX9_beatsAllOthers_8 : decode cX9_beatsAllOthers 8 = .ok (.istore 4, 2) := by decide +kernel
theorem dX9_beatsAllOthers_10 : decode cX9_beatsAllOthers 10 = .ok (.iconst 0, 1) := by decide +kernel
theorem dX9_beatsAllOthers_11 : decode cX9_beatsAllOthers 11 = .ok (.istore 5, 2) := by decide +kernel
theorem dX9_beatsAllOthers_13 : decode cX9_beatsAllOthers 13 = .ok (.iload 5, 2) := by decide +kernel
theorem dX9_beatsAllOthers_15 : decode cX9_beatsAllOthers 15 = .ok (.iload_n 1, 1) := by decide +kernel
theorem dX9_beatsAllOthers_16 : decode cX9_beatsAllOthers 16 = .ok (.if_icmp .ge 32, 3) := by decide +kernel
theorem dX9_beatsAllOthers_19 : decode cX9_beatsAllOthers 19 = .ok (.iload_n 3, 1) := by decide +kernel
theorem dX9_beatsAllOthers_20 : decode cX9_beatsAllOthers 20 = .ok (.iload 5, 2) := by decide +kernel
theorem dX9_beatsAllOthers_22 : decode cX9_beatsAllOthers 22 = .ok (.if_icmp .eq 20, 3) := by decide +kernel
theorem dX9_beatsAllOthers_25 : decode cX9_beatsAllOthers 25 = .ok (.iconst 2, 1) := by decide +kernel
theorem dX9_beatsAllOthers_26 : decode cX9_beatsAllOthers 26 = .ok (.aload_n 0, 1) := by decide +kernel
theorem dX9_beatsAllOthers_27 : decode cX9_beatsAllOthers 27 = .ok (.iload_n 3, 1) := by decide +kernel
theorem dX9_beatsAllOthers_28 : decode cX9_beatsAllOthers 28 = .ok (.iload 5, 2) := by decide +kernel
theorem dX9_beatsAllOthers_30 : decode cX9_beatsAllOthers 30 = .ok (.iload_n 2, 1) := by decide +kernel
theorem dX9_beatsAllOthers_31 : decode cX9_beatsAllOthers 31 = .ok (.invokevirtual 293, 3) := by decide +kernel
theorem dX9_beatsAllOthers_34 : decode cX9_beatsAllOthers 34 = .ok (.imul, 1) := by decide +kernel
theorem dX9_beatsAllOthers_35 : decode cX9_beatsAllOthers 35 = .ok (.iload_n 2, 1) := by decide +kernel
theorem dX9_beatsAllOthers_36 : decode cX9_beatsAllOthers 36 = .ok (.if_icmp .le 6, 3) := by decide +kernel
theorem dX9_beatsAllOthers_39 : decode cX9_beatsAllOthers 39 = .ok (.iinc 4 1, 3) := by decide +kernel
theorem dX9_beatsAllOthers_42 : decode cX9_beatsAllOthers 42 = .ok (.iinc 5 1, 3) := by decide +kernel
theorem dX9_beatsAllOthers_45 : decode cX9_beatsAllOthers 45 = .ok (.goto (-32), 3) := by decide +kernel
theorem dX9_beatsAllOthers_48 : decode cX9_beatsAllOthers 48 = .ok (.iload 4, 2) := by decide +kernel
theorem dX9_beatsAllOthers_50 : decode cX9_beatsAllOthers 50 = .ok (.iload_n 1, 1) := by decide +kernel
theorem dX9_beatsAllOthers_51 : decode cX9_beatsAllOthers 51 = .ok (.iconst 1, 1) := by decide +kernel
theorem dX9_beatsAllOthers_52 : decode cX9_beatsAllOthers 52 = .ok (.isub, 1) := by decide +kernel
theorem dX9_beatsAllOthers_53 : decode cX9_beatsAllOthers 53 = .ok (.if_icmp .ne 5, 3) := by decide +kernel
theorem dX9_beatsAllOthers_56 : decode cX9_beatsAllOthers 56 = .ok (.iload_n 3, 1) := by decide +kernel
theorem dX9_beatsAllOthers_57 : decode cX9_beatsAllOthers 57 = .ok (.ireturn, 1) := by decide +kernel
theorem dX9_beatsAllOthers_58 : decode cX9_beatsAllOthers 58 = .ok (.iinc 3 1, 3) := by decide +kernel
theorem dX9_beatsAllOthers_61 : decode cX9_beatsAllOthers 61 = .ok (.goto (-59), 3) := by decide +kernel
theorem dX9_beatsAllOthers_64 : decode cX9_beatsAllOthers 64 = .ok (.bipush (-2), 2) := by decide +kernel
theorem dX9_beatsAllOthers_66 : decode cX9_beatsAllOthers 66 = .ok (.ireturn, 1) := by decide +kernel
set_option maxRecDepth 20000 in
theorem ggX9_fewestPlaces_X9_at : GoodIn wsX9_fewestPlaces wsX9_at := goodIn_r _ [5] (by decide +kernel) (by decide +kernel)
set_option maxRecDepth 20000 in
theorem gX9_fewestPlaces_X9_at : GoodIn wsX9_fewestPlaces (va_wsS RX9 188 yX9_at wsX9_at) := goodIn_app (goodIn_of _ (by decide +kernel)) ggX9_fewestPlaces_X9_at
theorem dX9_fewestPlaces_0 : decode cX9_fewestPlaces 0 = .ok (.iconst (-1), 1) := by decide +kernel
theorem dX9_fewestPlaces_1 : decode cX9_fewestPlaces 1 = .ok (.istore_n 3, 1) := by decide +kernel
theorem dX9_fewestPlaces_2 : decode cX9_fewestPlaces 2 = .ok (.iconst 0, 1) := by decide +kernel
theorem dX9_fewestPlaces_3 : decode cX9_fewestPlaces 3 = .ok (.istore 4, 2) := by decide +kernel
theorem dX9_fewestPlaces_5 : decode cX9_fewestPlaces 5 = .ok (.iconst 0, 1) := by decide +kernel
theorem dX9_fewestPlaces_6 : decode cX9_fewestPlaces 6 = .ok (.istore 5, 2) := by decide +kernel
theorem dX9_fewestPlaces_8 : decode cX9_fewestPlaces 8 = .ok (.iload 5, 2) := by decide +kernel
theorem dX9_fewestPlaces_10 : decode cX9_fewestPlaces 10 = .ok (.iload_n 1, 1) := by decide +kernel
theorem dX9_fewestPlaces_11 : decode cX9_fewestPlaces 11 = .ok (.if_icmp .ge 66, 3) := by decide +kernel
theorem dX9_fewestPlaces_14 : decode cX9_fewestPlaces 14 = .ok (.iconst 0, 1) := by decide +kernel
theorem dX9_fewestPlaces_15 : decode cX9_fewestPlaces 15 = .ok (.istore 6, 2) := by decide +kernel
theorem dX9_fewestPlaces_17 : decode cX9_fewestPlaces 17 = .ok (.iconst 0, 1) := by decide +kernel
theorem dX9_fewestPlaces_18 : decode cX9_fewestPlaces 18 = .ok (.istore 7, 2) := by decide +kernel
theorem dX9_fewestPlaces_20 : decode cX9_fewestPlaces 20 = .ok (.iload 7, 2) := by decide +kernel
theorem dX9_fewestPlaces_22 : decode cX9_fewestPlaces 22 = .ok (.iload_n 2, 1) := by decide +kernel
theorem dX9_fewestPlaces_23 : decode cX9_fewestPlaces 23 = .ok (.if_icmp .ge 29, 3) := by decide +kernel
theorem dX9_fewestPlaces_26 : decode cX9_fewestPlaces 26 = .ok (.iload 6, 2) := by decide +kernel
theorem dX9_fewestPlaces_28 : decode cX9_fewestPlaces 28 = .ok (.aload_n 0, 1) := by decide +kernel
theorem dX9_fewestPlaces_29 : decode cX9_fewestPlaces 29 = .ok (.getfield 63, 3) := by decide +kernel
theorem dX9_fewestPlaces_32 : decode cX9_fewestPlaces 32 = .ok (.iload 7, 2) := by decide +kernel
theorem dX9_fewestPlaces_34 : decode cX9_fewestPlaces 34 = .ok (.bipush 6, 2) := by decide +kernel
theorem dX9_fewestPlaces_36 : decode cX9_fewestPlaces 36 = .ok (.imul, 1) := by decide +kernel
theorem dX9_fewestPlaces_37 : decode cX9_fewestPlaces 37 = .ok (.iload 5, 2) := by decide +kernel
theorem dX9_fewestPlaces_39 : decode cX9_fewestPlaces 39 = .ok (.iadd, 1) := by decide +kernel
theorem dX9_fewestPlaces_40 : decode cX9_fewestPlaces 40 = .ok (.invokestatic 188, 3) := by decide +kernel
theorem dX9_fewestPlaces_43 : decode cX9_fewestPlaces 43 = .ok (.iadd, 1) := by decide +kernel
theorem dX9_fewestPlaces_44 : decode cX9_fewestPlaces 44 = .ok (.istore 6, 2) := by decide +kernel
theorem dX9_fewestPlaces_46 : decode cX9_fewestPlaces 46 = .ok (.iinc 7 1, 3) := by decide +kernel
theorem dX9_fewestPlaces_49 : decode cX9_fewestPlaces 49 = .ok (.goto (-29), 3) := by decide +kernel
theorem dX9_fewestPlaces_52 : decode cX9_fewestPlaces 52 = .ok (.iload_n 3, 1) := by decide +kernel
theorem dX9_fewestPlaces_53 : decode cX9_fewestPlaces 53 = .ok (.iconst (-1), 1) := by decide +kernel
theorem dX9_fewestPlaces_54 : decode cX9_fewestPlaces 54 = .ok (.if_icmp .eq 10, 3) := by decide +kernel
theorem dX9_fewestPlaces_57 : decode cX9_fewestPlaces 57 = .ok (.iload 6, 2) := by decide +kernel
theorem dX9_fewestPlaces_59 : decode cX9_fewestPlaces 59 = .ok (.iload 4, 2) := by decide +kernel
theorem dX9_fewestPlaces_61 : decode cX9_fewestPlaces 61 = .ok (.if_icmp .ge 10, 3) := by decide +kernel
theorem dX9_fewestPlaces_64 : decode cX9_fewestPlaces 64 = .ok (.iload 6, 2) := by decide +kernel
theorem dX9_fewestPlaces_66 : decode cX9_fewestPlaces 66 = .ok (.istore 4, 2) := by decide +kernel
theorem dX9_fewestPlaces_68 : decode cX9_fewestPlaces 68 = .ok (.iload 5, 2) := by decide +kernel
theorem dX9_fewestPlaces_70 : decode cX9_fewestPlaces 70 = .ok (.istore_n 3, 1) := by decide +kernel
theorem dX9_fewestPlaces_71 : decode cX9_fewestPlaces 71 = .ok (.iinc 5 1, 3) := by decide +kernel
theorem dX9_fewestPlaces_74 : decode cX9_fewestPlaces 74 = .ok (.goto (-66), 3) := by decide +kernel
theorem dX9_fewestPlaces_77 : decode cX9_fewestPlaces 77 = .ok (.iload_n 3, 1) := by decide +kernel
theorem dX9_fewestPlaces_78 : decode cX9_fewestPlaces 78 = .ok (.ireturn, 1) := by decide +kernel
set_option maxRecDepth 20000 in
theorem ggX9_twosAlike_X9_judgesFor : GoodIn wsX9_twosAlike wsX9_judgesFor := goodIn_r _ [5, 6, 7, 8, 4, 9, 10, 11, 12, 13, 14, 15, 16, 17, 18, 19, 20, 21, 22, 23, 24] (by decide +kernel) (by decide +kernel)
set_option maxRecDepth 20000 in
theorem gX9_twosAlike_X9_judgesFor : GoodIn wsX9_twosAlike (wsV RX9 293 RX9 yX9_judgesFor wsX9_judgesFor) := goodIn_app (goodIn_of _ (by decide +kernel)) ggX9_twosAlike_X9_judgesFor
theorem dX9_twosAlike_0 : decode cX9_twosAlike 0 = .ok (.iconst 0, 1) := by decide +kernel
theorem dX9_twosAlike_1 : decode cX9_twosAlike 1 = .ok (.istore_n 3, 1) := by decide +kernel
theorem dX9_twosAlike_2 : decode cX9_twosAlike 2 = .ok (.iconst 0, 1) := by decide +kernel
theorem dX9_twosAlike_3 : decode cX9_twosAlike 3 = .ok (.istore 4, 2) := by decide +kernel
theorem dX9_twosAlike_5 : decode cX9_twosAlike 5 = .ok (.iload 4, 2) := by decide +kernel
theorem dX9_twosAlike_7 : decode cX9_twosAlike 7 = .ok (.iload_n 1, 1) := by decide +kernel
theorem dX9_twosAlike_8 : decode cX9_twosAlike 8 = .ok (.if_icmp .ge 45, 3) := by decide +kernel
theorem dX9_twosAlike_11 : decode cX9_twosAlike 11 = .ok (.iload 4, 2) := by decide +kernel
theorem dX9_twosAlike_13 : decode cX9_twosAlike 13 = .ok (.iconst 1, 1) := by decide +kernel
theorem dX9_twosAlike_14 : decode cX9_twosAlike 14 = .ok (.iadd, 1) := by decide +kernel
theorem dX9_twosAlike_15 : decode cX9_twosAlike 15 = .ok (.istore 5, 2) := by decide +kernel
theorem dX9_twosAlike_17 : decode cX9_twosAlike 17 = .ok (.iload 5, 2) := by decide +kernel
theorem dX9_twosAlike_19 : decode cX9_twosAlike 19 = .ok (.iload_n 1, 1) := by decide +kernel
theorem dX9_twosAlike_20 : decode cX9_twosAlike 20 = .ok (.if_icmp .ge 27, 3) := by decide +kernel
theorem dX9_twosAlike_23 : decode cX9_twosAlike 23 = .ok (.iconst 2, 1) := by decide +kernel
theorem dX9_twosAlike_24 : decode cX9_twosAlike 24 = .ok (.aload_n 0, 1) := by decide +kernel
theorem dX9_twosAlike_25 : decode cX9_twosAlike 25 = .ok (.iload 4, 2) := by decide +kernel
theorem dX9_twosAlike_27 : decode cX9_twosAlike 27 = .ok (.iload 5, 2) := by decide +kernel
theorem dX9_twosAlike_29 : decode cX9_twosAlike 29 = .ok (.iload_n 2, 1) := by decide +kernel
theorem dX9_twosAlike_30 : decode cX9_twosAlike 30 = .ok (.invokevirtual 293, 3) := by decide +kernel
theorem dX9_twosAlike_33 : decode cX9_twosAlike 33 = .ok (.imul, 1) := by decide +kernel
theorem dX9_twosAlike_34 : decode cX9_twosAlike 34 = .ok (.iload_n 2, 1) := by decide +kernel
theorem dX9_twosAlike_35 : decode cX9_twosAlike 35 = .ok (.if_icmp .ne 6, 3) := by decide +kernel
theorem dX9_twosAlike_38 : decode cX9_twosAlike 38 = .ok (.iinc 3 1, 3) := by decide +kernel
theorem dX9_twosAlike_41 : decode cX9_twosAlike 41 = .ok (.iinc 5 1, 3) := by decide +kernel
theorem dX9_twosAlike_44 : decode cX9_twosAlike 44 = .ok (.goto (-27), 3) := by decide +kernel
theorem dX9_twosAlike_47 : decode cX9_twosAlike 47 = .ok (.iinc 4 1, 3) := by decide +kernel
theorem dX9_twosAlike_50 : decode cX9_twosAlike 50 = .ok (.goto (-45), 3) := by decide +kernel
theorem dX9_twosAlike_53 : decode cX9_twosAlike 53 = .ok (.iload_n 3, 1) := by decide +kernel
theorem dX9_twosAlike_54 : decode cX9_twosAlike 54 = .ok (.ireturn, 1) := by decide +kernel
set_option maxRecDepth 20000 in
theorem ggX9_likely_X9_within : GoodIn wsX9_likely wsX9_within := goodIn_r _ [5] (by decide +kernel) (by decide +kernel)
set_option maxRecDepth 20000 in
theorem gX9_likely_X9_within : GoodIn wsX9_likely (va_wsS RX9 90 yX9_within wsX9_within) := goodIn_app (goodIn_of _ (by decide +kernel)) ggX9_likely_X9_within
set_option maxRecDepth 20000 in
theorem ggX9_likely_X7_holds : GoodIn wsX9_likely wsX7_holds := goodIn_r _ [10, 11, 46, 47, 48, 49, 50, 51] (by decide +kernel) (by decide +kernel)
set_option maxRecDepth 20000 in
theorem gX9_likely_X7_holds : GoodIn wsX9_likely (wsV RX9 132 RX7 yX7_holds wsX7_holds) := goodIn_app (goodIn_of _ (by decide +kernel)) ggX9_likely_X7_holds
set_option maxRecDepth 20000 in
theorem ggX9_likely_X7_open : GoodIn wsX9_likely wsX7_open := goodIn_r _ [15, 11, 16, 17, 18, 19, 46, 47, 48, 49, 50, 51] (by decide +kernel) (by decide +kernel)
set_option maxRecDepth 20000 in
theorem gX9_likely_X7_open : GoodIn wsX9_likely (wsV RX9 135 RX7 yX7_open wsX7_open) := goodIn_app (goodIn_of _ (by decide +kernel)) ggX9_likely_X7_open
set_option maxRecDepth 20000 in
theorem ggX9_likely_X7_byteAt : GoodIn wsX9_likely wsX7_byteAt := goodIn_r _ [23, 16, 24, 25, 4, 26, 46, 47, 48, 49, 50, 51] (by decide +kernel) (by decide +kernel)
set_option maxRecDepth 20000 in
theorem gX9_likely_X7_byteAt : GoodIn wsX9_likely (wsV RX9 224 RX7 yX7_byteAt wsX7_byteAt) := goodIn_app (goodIn_of _ (by decide +kernel)) ggX9_likely_X7_byteAt
set_option maxRecDepth 20000 in
theorem ggX9_likely_X9_isBeaten : GoodIn wsX9_likely wsX9_isBeaten := goodIn_r _ [30, 1, 20, 21, 22, 9, 23, 16, 24, 25, 4, 26, 31, 32, 33, 34, 35, 36, 37, 38, 39, 40, 41, 42, 43, 44, 45, 46, 47, 48, 49, 50, 51] (by decide +kernel) (by decide +kernel)
set_option maxRecDepth 20000 in
theorem gX9_likely_X9_isBeaten : GoodIn wsX9_likely (wsV RX9 297 RX9 yX9_isBeaten wsX9_isBeaten) := goodIn_app (goodIn_of _ (by decide +kernel)) ggX9_likely_X9_isBeaten
theorem dX9_likely_0 : decode cX9_likely 0 = .ok (.iload_n 1, 1) := by decide +kernel
theorem dX9_likely_1 : decode cX9_likely 1 = .ok (.iconst 1, 1) := by decide +kernel
theorem dX9_likely_2 : decode cX9_likely 2 = .ok (.bipush 16, 2) := by decide +kernel
theorem dX9_likely_4 : decode cX9_likely 4 = .ok (.invokestatic 90, 3) := by decide +kernel
theorem dX9_likely_7 : decode cX9_likely 7 = .ok (.ifCond .eq 25, 3) := by decide +kernel
theorem dX9_likely_10 : decode cX9_likely 10 = .ok (.iload_n 2, 1) := by decide +kernel
theorem dX9_likely_11 : decode cX9_likely 11 = .ok (.iconst 0, 1) := by decide +kernel
theorem dX9_likely_12 : decode cX9_likely 12 = .ok (.iconst 2, 1) := by decide +kernel
theorem dX9_likely_13 : decode cX9_likely 13 = .ok (.invokestatic 90, 3) := by decide +kernel
theorem dX9_likely_16 : decode cX9_likely 16 = .ok (.ifCond .eq 16, 3) := by decide +kernel
theorem dX9_likely_19 : decode cX9_likely 19 = .ok (.aload_n 0, 1) := by decide +kernel
theorem dX9_likely_20 : decode cX9_likely 20 = .ok (.getfield 10, 3) := by decide +kernel
theorem dX9_likely_23 : decode cX9_likely 23 = .ok (.iconst 2, 1) := by decide +kernel
theorem dX9_likely_24 : decode cX9_likely 24 = .ok (.iload_n 1, 1) := by decide +kernel
theorem dX9_likely_25 : decode cX9_likely 25 = .ok (.imul, 1) := by decide +kernel
theorem dX9_likely_26 : decode cX9_likely 26 = .ok (.invokevirtual 132, 3) := by decide +kernel
theorem dX9_likely_29 : decode cX9_likely 29 = .ok (.ifCond .ne 5, 3) := by decide +kernel
theorem dX9_likely_32 : decode cX9_likely 32 = .ok (.iconst (-1), 1) := by decide +kernel
theorem dX9_likely_33 : decode cX9_likely 33 = .ok (.ireturn, 1) := by decide +kernel
theorem dX9_likely_34 : decode cX9_likely 34 = .ok (.aload_n 0, 1) := by decide +kernel
theorem dX9_likely_35 : decode cX9_likely 35 = .ok (.getfield 10, 3) := by decide +kernel
theorem dX9_likely_38 : decode cX9_likely 38 = .ok (.iconst 2, 1) := by decide +kernel
theorem dX9_likely_39 : decode cX9_likely 39 = .ok (.iload_n 1, 1) := by decide +kernel
theorem dX9_likely_40 : decode cX9_likely 40 = .ok (.imul, 1) := by decide +kernel
theorem dX9_likely_41 : decode cX9_likely 41 = .ok (.invokevirtual 135, 3) := by decide +kernel
theorem dX9_likely_44 : decode cX9_likely 44 = .ok (.iconst 0, 1) := by decide +kernel
theorem dX9_likely_45 : decode cX9_likely 45 = .ok (.istore_n 3, 1) := by decide +kernel
theorem dX9_likely_46 : decode cX9_likely 46 = .ok (.iconst (-1), 1) := by decide +kernel
theorem dX9_likely_47 : decode cX9_likely 47 = .ok (.istore 4, 2) := by decide +kernel
theorem dX9_likely_49 : decode cX9_likely 49 = .ok (.iconst 0, 1) := by decide +kernel
theorem dX9_likely_50 : decode cX9_likely 50 = .ok (.istore 5, 2) := by decide +kernel
theorem dX9_likely_52 : decode cX9_likely 52 = .ok (.iconst 0, 1) := by decide +kernel
theorem dX9_likely_53 : decode cX9_likely 53 = .ok (.istore 6, 2) := by decide +kernel
theorem dX9_likely_55 : decode cX9_likely 55 = .ok (.iload 6, 2) := by decide +kernel
theorem dX9_likely_57 : decode cX9_likely 57 = .ok (.iload_n 1, 1) := by decide +kernel
theorem dX9_likely_58 : decode cX9_likely 58 = .ok (.if_icmp .ge 68, 3) := by decide +kernel
theorem dX9_likely_61 : decode cX9_likely 61 = .ok (.aload_n 0, 1) := by decide +kernel
theorem dX9_likely_62 : decode cX9_likely 62 = .ok (.getfield 10, 3) := by decide +kernel
theorem dX9_likely_65 : decode cX9_likely 65 = .ok (.iconst 2, 1) := by decide +kernel
theorem dX9_likely_66 : decode cX9_likely 66 = .ok (.iload 6, 2) := by decide +kernel
theorem dX9_likely_68 : decode cX9_likely 68 = .ok (.imul, 1) := by decide +kernel
theorem dX9_likely_69 : decode cX9_likely 69 = .ok (.invokevirtual 224, 3) := by decide +kernel
theorem dX9_likely_72 : decode cX9_likely 72 = .ok (.aload_n 0, 1) := by decide +kernel
theorem dX9_likely_73 : decode cX9_likely 73 = .ok (.getfield 10, 3) := by decide +kernel
theorem dX9_likely_76 : decode cX9_likely 76 = .ok (.iconst 2, 1) := by decide +kernel
theorem dX9_likely_77 : decode cX9_likely 77 = .ok (.iload 6, 2) := by decide +kernel
theorem dX9_likely_79 : decode cX9_likely 79 = .ok (.imul, 1) := by decide +kernel
theorem dX9_likely_80 : decode cX9_likely 80 = .ok (.iconst 1, 1) := by decide +kernel
theorem dX9_likely_81 : decode cX9_likely 81 = .ok (.iadd, 1) := by decide +kernel
theorem dX9_likely_82 : decode cX9_likely 82 = .ok (.invokevirtual 224, 3) := by decide +kernel
theorem dX9_likely_85 : decode cX9_likely 85 = .ok (.imul, 1) := by decide +kernel
theorem dX9_likely_86 : decode cX9_likely 86 = .ok (.istore 7, 2) := by decide +kernel
theorem dX9_likely_88 : decode cX9_likely 88 = .ok (.iload 7, 2) := by decide +kernel
theorem dX9_likely_90 : decode cX9_likely 90 = .ok (.iload 4, 2) := by decide +kernel
theorem dX9_likely_92 : decode cX9_likely 92 = .ok (.if_icmp .le 11, 3) := by decide +kernel
theorem dX9_likely_95 : decode cX9_likely 95 = .ok (.iload 7, 2) := by decide +kernel
theorem dX9_likely_97 : decode cX9_likely 97 = .ok (.istore 4, 2) := by decide +kernel
theorem dX9_likely_99 : decode cX9_likely 99 = .ok (.iload 6, 2) := by decide +kernel
theorem dX9_likely_101 : decode cX9_likely 101 = .ok (.istore 5, 2) := by decide +kernel
theorem dX9_likely_103 : decode cX9_likely 103 = .ok (.aload_n 0, 1) := by decide +kernel
theorem dX9_likely_104 : decode cX9_likely 104 = .ok (.iload 6, 2) := by decide +kernel
theorem dX9_likely_106 : decode cX9_likely 106 = .ok (.iload_n 1, 1) := by decide +kernel
theorem dX9_likely_107 : decode cX9_likely 107 = .ok (.invokevirtual 297, 3) := by decide +kernel
theorem dX9_likely_110 : decode cX9_likely 110 = .ok (.ifCond .ne 10, 3) := by decide +kernel
theorem dX9_likely_113 : decode cX9_likely 113 = .ok (.iload_n 3, 1) := by decide +kernel
theorem dX9_likely_114 : decode cX9_likely 114 = .ok (.iconst 1, 1) := by decide +kernel
theorem dX9_likely_115 : decode cX9_likely 115 = .ok (.iload 6, 2) := by decide +kernel
theorem dX9_likely_117 : decode cX9_likely 117 = .ok (.ishl, 1) := by decide +kernel
theorem dX9_likely_118 : decode cX9_likely 118 = .ok (.ior, 1) := by decide +kernel
theorem dX9_likely_119 : decode cX9_likely 119 = .ok (.istore_n 3, 1) := by decide +kernel
theorem dX9_likely_120 : decode cX9_likely 120 = .ok (.iinc 6 1, 3) := by decide +kernel
theorem dX9_likely_123 : decode cX9_likely 123 = .ok (.goto (-68), 3) := by decide +kernel
theorem dX9_likely_126 : decode cX9_likely 126 = .ok (.iload_n 2, 1) := by decide +kernel
theorem dX9_likely_127 : decode cX9_likely 127 = .ok (.ifCond .ne 5, 3) := by decide +kernel
theorem dX9_likely_130 : decode cX9_likely 130 = .ok (.iload_n 3, 1) := by decide +kernel
theorem dX9_likely_131 : decode cX9_likely 131 = .ok (.ireturn, 1) := by decide +kernel
theorem dX9_likely_132 : decode cX9_likely 132 = .ok (.iload_n 2, 1) := by decide +kernel
theorem dX9_likely_133 : decode cX9_likely 133 = .ok (.iconst 1, 1) := by decide +kernel
theorem dX9_likely_134 : decode cX9_likely 134 = .ok (.if_icmp .ne 8, 3) := by decide +kernel
theorem dX9_likely_137 : decode cX9_likely 137 = .ok (.iload 4, 2) := by decide +kernel
theorem dX9_likely_139 : decode cX9_likely 139 = .ok (.goto 5, 3) := by decide +kernel
theorem dX9_likely_142 : decode cX9_likely 142 = .ok (.iload 5, 2) := by decide +kernel
theorem dX9_likely_144 : decode cX9_likely 144 = .ok (.ireturn, 1) := by decide +kernel
set_option maxRecDepth 20000 in
theorem ggX9_isBeaten_X7_byteAt : GoodIn wsX9_isBeaten wsX7_byteAt := goodIn_r _ [6, 7, 8, 9, 10, 11, 27, 28, 29, 30, 31, 32] (by decide +kernel) (by decide +kernel)
set_option maxRecDepth 20000 in
theorem gX9_isBeaten_X7_byteAt : GoodIn wsX9_isBeaten (wsV RX9 224 RX7 yX7_byteAt wsX7_byteAt) := goodIn_app (goodIn_of _ (by decide +kernel)) ggX9_isBeaten_X7_byteAt
theorem dX9_isBeaten_0 : decode cX9_isBeaten 0 = .ok (.aload_n 0, 1) := by decide +kernel
theorem dX9_isBeaten_1 : decode cX9_isBeaten 1 = .ok (.getfield 10, 3) := by decide +kernel
theorem dX9_isBeaten_4 : decode cX9_isBeaten 4 = .ok (.iconst 2, 1) := by decide +kernel
theorem dX9_isBeaten_5 : decode cX9_isBeaten 5 = .ok (.iload_n 1, 1) := by decide +kernel
theorem dX9_isBeaten_6 : decode cX9_isBeaten 6 = .ok (.imul, 1) := by decide +kernel
theorem dX9_isBeaten_7 : decode cX9_isBeaten 7 = .ok (.invokevirtual 224, 3) := by decide +kernel
theorem dX9_isBeaten_10 : decode cX9_isBeaten 10 = .ok (.istore_n 3, 1) := by decide +kernel
theorem dX9_isBeaten_11 : decode cX9_isBeaten 11 = .ok (.aload_n 0, 1) := by decide +kernel
theorem dX9_isBeaten_12 : decode cX9_isBeaten 12 = .ok (.getfield 10, 3) := by decide +kernel
theorem dX9_isBeaten_15 : decode cX9_isBeaten 15 = .ok (.iconst 2, 1) := by decide +kernel
theorem dX9_isBeaten_16 : decode cX9_isBeaten 16 = .ok (.iload_n 1, 1) := by decide +kernel
theorem dX9_isBeaten_17 : decode cX9_isBeaten 17 = .ok (.imul, 1) := by decide +kernel
theorem dX9_isBeaten_18 : decode cX9_isBeaten 18 = .ok (.iconst 1, 1) := by decide +kernel
theorem dX9_isBeaten_19 : decode cX9_isBeaten 19 = .ok (.iadd, 1) := by decide +kernel
theorem dX9_isBeaten_20 : decode cX9_isBeaten 20 = .ok (.invokevirtual 224, 3) := by decide +kernel
theorem dX9_isBeaten_23 : decode cX9_isBeaten 23 = .ok (.istore 4, 2) := by decide +kernel
theorem dX9_isBeaten_25 : decode cX9_isBeaten 25 = .ok (.iconst 0, 1) := by decide +kernel
theorem dX9_isBeaten_26 : decode cX9_isBeaten 26 = .ok (.istore 5, 2) := by decide +kernel
theorem dX9_isBeaten_28 : decode cX9_isBeaten 28 = .ok (.iload 5, 2) := by decide +kernel
theorem dX9_isBeaten_30 : decode cX9_isBeaten 30 = .ok (.iload_n 2, 1) := by decide +kernel
theorem dX9_isBeaten_31 : decode cX9_isBeaten 31 = .ok (.if_icmp .ge 62, 3) := by decide +kernel
theorem dX9_isBeaten_34 : decode cX9_isBeaten 34 = .ok (.aload_n 0, 1) := by decide +kernel
theorem dX9_isBeaten_35 : decode cX9_isBeaten 35 = .ok (.getfield 10, 3) := by decide +kernel
theorem dX9_isBeaten_38 : decode cX9_isBeaten 38 = .ok (.iconst 2, 1) := by decide +kernel
theorem dX9_isBeaten_39 : decode cX9_isBeaten 39 = .ok (.iload 5, 2) := by decide +kernel
theorem dX9_isBeaten_41 : decode cX9_isBeaten 41 = .ok (.imul, 1) := by decide +kernel
theorem dX9_isBeaten_42 : decode cX9_isBeaten 42 = .ok (.invokevirtual 224, 3) := by decide +kernel
theorem dX9_isBeaten_45 : decode cX9_isBeaten 45 = .ok (.iload_n 3, 1) := by decide +kernel
theorem dX9_isBeaten_46 : decode cX9_isBeaten 46 = .ok (.isub, 1) := by decide +kernel
theorem dX9_isBeaten_47 : decode cX9_isBeaten 47 = .ok (.istore 6, 2) := by decide +kernel
theorem dX9_isBeaten_49 : decode cX9_isBeaten 49 = .ok (.aload_n 0, 1) := by decide +kernel
theorem dX9_isBeaten_50 : decode cX9_isBeaten 50 = .ok (.getfield 10, 3) := by decide +kernel
theorem dX9_isBeaten_53 : decode cX9_isBeaten 53 = .ok (.iconst 2, 1) := by decide +kernel
theorem dX9_isBeaten_54 : decode cX9_isBeaten 54 = .ok (.iload 5, 2) := by decide +kernel
theorem dX9_isBeaten_56 : decode cX9_isBeaten 56 = .ok (.imul, 1) := by decide +kernel
theorem dX9_isBeaten_57 : decode cX9_isBeaten 57 = .ok (.iconst 1, 1) := by decide +kernel
theorem dX9_isBeaten_58 : decode cX9_isBeaten 58 = .ok (.iadd, 1) := by decide +kernel
theorem dX9_isBeaten_59 : decode cX9_isBeaten 59 = .ok (.invokevirtual 224, 3) := by decide +kernel
theorem dX9_isBeaten_62 : decode cX9_isBeaten 62 = .ok (.iload 4, 2) := by decide +kernel
theorem dX9_isBeaten_64 : decode cX9_isBeaten 64 = .ok (.isub, 1) := by decide +kernel
theorem dX9_isBeaten_65 : decode cX9_isBeaten 65 = .ok (.istore 7, 2) := by decide +kernel
theorem dX9_isBeaten_67 : decode cX9_isBeaten 67 = .ok (.iload 6, 2) := by decide +kernel
theorem dX9_isBeaten_69 : decode cX9_isBeaten 69 = .ok (.ifCond .lt 18, 3) := by decide +kernel
theorem dX9_isBeaten_72 : decode cX9_isBeaten 72 = .ok (.iload 7, 2) := by decide +kernel
theorem dX9_isBeaten_74 : decode cX9_isBeaten 74 = .ok (.ifCond .lt 13, 3) := by decide +kernel
theorem dX9_isBeaten_77 : decode cX9_isBeaten 77 = .ok (.iload 6, 2) := by decide +kernel
theorem dX9_isBeaten_79 : decode cX9_isBeaten 79 = .ok (.iload 7, 2) := by decide +kernel
theorem dX9_isBeaten_81 : decode cX9_isBeaten 81 = .ok (.iadd, 1) := by decide +kernel
theorem dX9_isBeaten_82 : decode cX9_isBeaten 82 = .ok (.ifCond .le 5, 3) := by decide +kernel
theorem dX9_isBeaten_85 : decode cX9_isBeaten 85 = .ok (.iconst 1, 1) := by decide +kernel
theorem dX9_isBeaten_86 : decode cX9_isBeaten 86 = .ok (.ireturn, 1) := by decide +kernel
theorem dX9_isBeaten_87 : decode cX9_isBeaten 87 = .ok (.iinc 5 1, 3) := by decide +kernel
theorem dX9_isBeaten_90 : decode cX9_isBeaten 90 = .ok (.goto (-62), 3) := by decide +kernel
theorem dX9_isBeaten_93 : decode cX9_isBeaten 93 = .ok (.iconst 0, 1) := by decide +kernel
theorem dX9_isBeaten_94 : decode cX9_isBeaten 94 = .ok (.ireturn, 1) := by decide +kernel
set_option maxRecDepth 20000 in
theorem ggX9_share_X9_within : GoodIn wsX9_share wsX9_within := goodIn_r _ [5] (by decide +kernel) (by decide +kernel)
set_option maxRecDepth 20000 in
theorem gX9_share_X9_within : GoodIn wsX9_share (va_wsS RX9 90 yX9_within wsX9_within) := goodIn_app (goodIn_of _ (by decide +kernel)) ggX9_share_X9_within
set_option maxRecDepth 20000 in
theorem ggX9_share_X7_holds : GoodIn wsX9_share wsX7_holds := goodIn_r _ [10, 11, 52, 53, 54, 55, 56, 57] (by decide +kernel) (by decide +kernel)
set_option maxRecDepth 20000 in
theorem gX9_share_X7_holds : GoodIn wsX9_share (wsV RX9 132 RX7 yX7_holds wsX7_holds) := goodIn_app (goodIn_of _ (by decide +kernel)) ggX9_share_X7_holds
set_option maxRecDepth 20000 in
theorem ggX9_share_X7_open : GoodIn wsX9_share wsX7_open := goodIn_r _ [15, 11, 16, 17, 18, 19, 52, 53, 54, 55, 56, 57] (by decide +kernel) (by decide +kernel)
set_option maxRecDepth 20000 in
theorem gX9_share_X7_open : GoodIn wsX9_share (wsV RX9 135 RX7 yX7_open wsX7_open) := goodIn_app (goodIn_of _ (by decide +kernel)) ggX9_share_X7_open
set_option maxRecDepth 20000 in
theorem ggX9_share_X7_byteAt : GoodIn wsX9_share wsX7_byteAt := goodIn_r _ [23, 16, 24, 25, 4, 26, 52, 53, 54, 55, 56, 57] (by decide +kernel) (by decide +kernel)
set_option maxRecDepth 20000 in
theorem gX9_share_X7_byteAt : GoodIn wsX9_share (wsV RX9 224 RX7 yX7_byteAt wsX7_byteAt) := goodIn_app (goodIn_of _ (by decide +kernel)) ggX9_share_X7_byteAt
set_option maxRecDepth 20000 in
theorem ggX9_share_J6_bitCount_0f7a4 : GoodIn wsX9_share wsJ6_bitCount_0f7a4 := goodIn_r _ [30, 31, 32, 33] (by decide +kernel) (by decide +kernel)
set_option maxRecDepth 20000 in
theorem gX9_share_J6_bitCount_0f7a4 : GoodIn wsX9_share (va_wsS RX9 242 yJ6_bitCount_0f7a4 wsJ6_bitCount_0f7a4) := goodIn_app (goodIn_of _ (by decide +kernel)) ggX9_share_J6_bitCount_0f7a4
set_option maxRecDepth 20000 in
theorem ggX9_share_X9_has : GoodIn wsX9_share wsX9_has := goodIn_r _ [36, 2, 3, 4, 5] (by decide +kernel) (by decide +kernel)
set_option maxRecDepth 20000 in
theorem gX9_share_X9_has : GoodIn wsX9_share (va_wsS RX9 290 yX9_has wsX9_has) := goodIn_app (goodIn_of _ (by decide +kernel)) ggX9_share_X9_has
theorem dX9_share_0 : decode cX9_share 0 = .ok (.iload_n 1, 1) := by decide +kernel
theorem dX9_share_1 : decode cX9_share 1 = .ok (.iconst 1, 1) := by decide +kernel
theorem dX9_share_2 : decode cX9_share 2 = .ok (.bipush 12, 2) := by decide +kernel
theorem dX9_share_4 : decode cX9_share 4 = .ok (.invokestatic 90, 3) := by decide +kernel
theorem dX9_share_7 : decode cX9_share 7 = .ok (.ifCond .eq 26, 3) := by decide +kernel
theorem dX9_share_10 : decode cX9_share 10 = .ok (.iload_n 2, 1) := by decide +kernel
theorem dX9_share_11 : decode cX9_share 11 = .ok (.iconst 0, 1) := by decide +kernel
theorem dX9_share_12 : decode cX9_share 12 = .ok (.bipush 7, 2) := by decide +kernel
theorem dX9_share_14 : decode cX9_share 14 = .ok (.invokestatic 90, 3) := by decide +kernel
theorem dX9_share_17 : decode cX9_share 17 = .ok (.ifCond .eq 16, 3) := by decide +kernel
theorem dX9_share_20 : decode cX9_share 20 = .ok (.aload_n 0, 1) := by decide +kernel
theorem dX9_share_21 : decode cX9_share 21 = .ok (.getfield 10, 3) := by decide +kernel
theorem dX9_share_24 : decode cX9_share 24 = .ok (.iconst 2, 1) := by decide +kernel
theorem dX9_share_25 : decode cX9_share 25 = .ok (.iload_n 1, 1) := by decide +kernel
theorem dX9_share_26 : decode cX9_share 26 = .ok (.imul, 1) := by decide +kernel
theorem dX9_share_27 : decode cX9_share 27 = .ok (.invokevirtual 132, 3) := by decide +kernel
theorem dX9_share_30 : decode cX9_share 30 = .ok (.ifCond .ne 5, 3) := by decide +kernel
theorem dX9_share_33 : decode cX9_share 33 = .ok (.iconst (-1), 1) := by decide +kernel
theorem dX9_share_34 : decode cX9_share 34 = .ok (.ireturn, 1) := by decide +kernel
theorem dX9_share_35 : decode cX9_share 35 = .ok (.aload_n 0, 1) := by decide +kernel
theorem dX9_share_36 : decode cX9_share 36 = .ok (.getfield 10, 3) := by decide +kernel
theorem dX9_share_39 : decode cX9_share 39 = .ok (.iconst 2, 1) := by decide +kernel
theorem dX9_share_40 : decode cX9_share 40 = .ok (.iload_n 1, 1) := by decide +kernel
theorem dX9_share_41 : decode cX9_share 41 = .ok (.imul, 1) := by decide +kernel
theorem dX9_share_42 : decode cX9_share 42 = .ok (.invokevirtual 135, 3) := by decide +kernel
theorem dX9_share_45 : decode cX9_share 45 = .ok (.iconst 0, 1) := by decide +kernel
theorem dX9_share_46 : decode cX9_share 46 = .ok (.istore_n 3, 1) := by decide +kernel
theorem dX9_share_47 : decode cX9_share 47 = .ok (.iconst 0, 1) := by decide +kernel
theorem dX9_share_48 : decode cX9_share 48 = .ok (.istore 4, 2) := by decide +kernel
theorem dX9_share_50 : decode cX9_share 50 = .ok (.iload 4, 2) := by decide +kernel
theorem dX9_share_52 : decode cX9_share 52 = .ok (.iload_n 1, 1) := by decide +kernel
theorem dX9_share_53 : decode cX9_share 53 = .ok (.if_icmp .ge 95, 3) := by decide +kernel
theorem dX9_share_56 : decode cX9_share 56 = .ok (.aload_n 0, 1) := by decide +kernel
theorem dX9_share_57 : decode cX9_share 57 = .ok (.getfield 10, 3) := by decide +kernel
theorem dX9_share_60 : decode cX9_share 60 = .ok (.iconst 2, 1) := by decide +kernel
theorem dX9_share_61 : decode cX9_share 61 = .ok (.iload 4, 2) := by decide +kernel
theorem dX9_share_63 : decode cX9_share 63 = .ok (.imul, 1) := by decide +kernel
theorem dX9_share_64 : decode cX9_share 64 = .ok (.invokevirtual 224, 3) := by decide +kernel
theorem dX9_share_67 : decode cX9_share 67 = .ok (.istore 5, 2) := by decide +kernel
theorem dX9_share_69 : decode cX9_share 69 = .ok (.aload_n 0, 1) := by decide +kernel
theorem dX9_share_70 : decode cX9_share 70 = .ok (.getfield 10, 3) := by decide +kernel
theorem dX9_share_73 : decode cX9_share 73 = .ok (.iconst 2, 1) := by decide +kernel
theorem dX9_share_74 : decode cX9_share 74 = .ok (.iload 4, 2) := by decide +kernel
theorem dX9_share_76 : decode cX9_share 76 = .ok (.imul, 1) := by decide +kernel
theorem dX9_share_77 : decode cX9_share 77 = .ok (.iconst 1, 1) := by decide +kernel
theorem dX9_share_78 : decode cX9_share 78 = .ok (.iadd, 1) := by decide +kernel
theorem dX9_share_79 : decode cX9_share 79 = .ok (.invokevirtual 224, 3) := by decide +kernel
theorem dX9_share_82 : decode cX9_share 82 = .ok (.istore 6, 2) := by decide +kernel
theorem dX9_share_84 : decode cX9_share 84 = .ok (.iload 6, 2) := by decide +kernel
theorem dX9_share_86 : decode cX9_share 86 = .ok (.invokestatic 242, 3) := by decide +kernel
theorem dX9_share_89 : decode cX9_share 89 = .ok (.istore 7, 2) := by decide +kernel
theorem dX9_share_91 : decode cX9_share 91 = .ok (.iload 7, 2) := by decide +kernel
theorem dX9_share_93 : decode cX9_share 93 = .ok (.ifCond .le 49, 3) := by decide +kernel
theorem dX9_share_96 : decode cX9_share 96 = .ok (.iload 6, 2) := by decide +kernel
theorem dX9_share_98 : decode cX9_share 98 = .ok (.iload_n 2, 1) := by decide +kernel
theorem dX9_share_99 : decode cX9_share 99 = .ok (.invokestatic 290, 3) := by decide +kernel
theorem dX9_share_102 : decode cX9_share 102 = .ok (.ifCond .eq 40, 3) := by decide +kernel
theorem dX9_share_105 : decode cX9_share 105 = .ok (.iload 6, 2) := by decide +kernel
theorem dX9_share_107 : decode cX9_share 107 = .ok (.iconst 1, 1) := by decide +kernel
theorem dX9_share_108 : decode cX9_share 108 = .ok (.iload_n 2, 1) := by decide +kernel
theorem dX9_share_109 : decode cX9_share 109 = .ok (.ishl, 1) := by decide +kernel
theorem dX9_share_110 : decode cX9_share 110 = .ok (.iconst 1, 1) := by decide +kernel
theorem dX9_share_111 : decode cX9_share 111 = .ok (.isub, 1) := by decide +kernel
theorem dX9_share_112 : decode cX9_share 112 = .ok (.iand, 1) := by decide +kernel
theorem dX9_share_113 : decode cX9_share 113 = .ok (.invokestatic 242, 3) := by decide +kernel
theorem dX9_share_116 : decode cX9_share 116 = .ok (.istore 8, 2) := by decide +kernel
theorem dX9_share_118 : decode cX9_share 118 = .ok (.iload_n 3, 1) := by decide +kernel
theorem dX9_share_119 : decode cX9_share 119 = .ok (.iload 5, 2) := by decide +kernel
theorem dX9_share_121 : decode cX9_share 121 = .ok (.iload 7, 2) := by decide +kernel
theorem dX9_share_123 : decode cX9_share 123 = .ok (.idiv, 1) := by decide +kernel
theorem dX9_share_124 : decode cX9_share 124 = .ok (.iload 8, 2) := by decide +kernel
theorem dX9_share_126 : decode cX9_share 126 = .ok (.iload 5, 2) := by decide +kernel
theorem dX9_share_128 : decode cX9_share 128 = .ok (.iload 7, 2) := by decide +kernel
theorem dX9_share_130 : decode cX9_share 130 = .ok (.irem, 1) := by decide +kernel
theorem dX9_share_131 : decode cX9_share 131 = .ok (.if_icmp .ge 7, 3) := by decide +kernel
theorem dX9_share_134 : decode cX9_share 134 = .ok (.iconst 1, 1) := by decide +kernel
theorem dX9_share_135 : decode cX9_share 135 = .ok (.goto 4, 3) := by decide +kernel
theorem dX9_share_138 : decode cX9_share 138 = .ok (.iconst 0, 1) := by decide +kernel
theorem dX9_share_139 : decode cX9_share 139 = .ok (.iadd, 1) := by decide +kernel
theorem dX9_share_140 : decode cX9_share 140 = .ok (.iadd, 1) := by decide +kernel
theorem dX9_share_141 : decode cX9_share 141 = .ok (.istore_n 3, 1) := by decide +kernel
theorem dX9_share_142 : decode cX9_share 142 = .ok (.iinc 4 1, 3) := by decide +kernel
theorem dX9_share_145 : decode cX9_share 145 = .ok (.goto (-95), 3) := by decide +kernel
theorem dX9_share_148 : decode cX9_share 148 = .ok (.iload_n 3, 1) := by decide +kernel
theorem dX9_share_149 : decode cX9_share 149 = .ok (.ireturn, 1) := by decide +kernel
set_option maxRecDepth 20000 in
theorem ggX9_odds_X9_within : GoodIn wsX9_odds wsX9_within := goodIn_r _ [5] (by decide +kernel) (by decide +kernel)
set_option maxRecDepth 20000 in
theorem gX9_odds_X9_within : GoodIn wsX9_odds (va_wsS RX9 90 yX9_within wsX9_within) := goodIn_app (goodIn_of _ (by decide +kernel)) ggX9_odds_X9_within
set_option maxRecDepth 20000 in
theorem ggX9_odds_X7_holds : GoodIn wsX9_odds wsX7_holds := goodIn_r _ [10, 11, 49, 50, 51, 52, 53, 54] (by decide +kernel) (by decide +kernel)
set_option maxRecDepth 20000 in
theorem gX9_odds_X7_holds : GoodIn wsX9_odds (wsV RX9 132 RX7 yX7_holds wsX7_holds) := goodIn_app (goodIn_of _ (by decide +kernel)) ggX9_odds_X7_holds
set_option maxRecDepth 20000 in
theorem ggX9_odds_X7_open : GoodIn wsX9_odds wsX7_open := goodIn_r _ [15, 11, 16, 17, 18, 19, 49, 50, 51, 52, 53, 54] (by decide +kernel) (by decide +kernel)
set_option maxRecDepth 20000 in
theorem gX9_odds_X7_open : GoodIn wsX9_odds (wsV RX9 135 RX7 yX7_open wsX7_open) := goodIn_app (goodIn_of _ (by decide +kernel)) ggX9_odds_X7_open
set_option maxRecDepth 20000 in
theorem ggX9_odds_X7_byteAt : GoodIn wsX9_odds wsX7_byteAt := goodIn_r _ [23, 16, 24, 25, 4, 26, 49, 50, 51, 52, 53, 54] (by decide +kernel) (by decide +kernel)
set_option maxRecDepth 20000 in
theorem gX9_odds_X7_byteAt : GoodIn wsX9_odds (wsV RX9 224 RX7 yX7_byteAt wsX7_byteAt) := goodIn_app (goodIn_of _ (by decide +kernel)) ggX9_odds_X7_byteAt
set_option maxRecDepth 20000 in
theorem ggX9_odds_X9_commonDivisor : GoodIn wsX9_odds wsX9_commonDivisor := goodIn_r _ [29, 30, 31, 32, 33] (by decide +kernel) (by decide +kernel)
set_option maxRecDepth 20000 in
theorem gX9_odds_X9_commonDivisor : GoodIn wsX9_odds (va_wsS RX9 300 yX9_commonDivisor wsX9_commonDivisor) := goodIn_app (goodIn_of _ (by decide +kernel)) ggX9_odds_X9_commonDivisor
theorem dX9_odds_0 : decode cX9_odds 0 = .ok (.iload_n 1, 1) := by decide +kernel
theorem dX9_odds_1 : decode cX9_odds 1 = .ok (.iconst 1, 1) := by decide +kernel
theorem dX9_odds_2 : decode cX9_odds 2 = .ok (.bipush 9, 2) := by decide +kernel
theorem dX9_odds_4 : decode cX9_odds 4 = .ok (.invokestatic 90, 3) := by decide +kernel
theorem dX9_odds_7 : decode cX9_odds 7 = .ok (.ifCond .eq 23, 3) := by decide +kernel
theorem dX9_odds_10 : decode cX9_odds 10 = .ok (.iload_n 2, 1) := by decide +kernel
theorem dX9_odds_11 : decode cX9_odds 11 = .ok (.iconst 0, 1) := by decide +kernel
theorem dX9_odds_12 : decode cX9_odds 12 = .ok (.iconst 5, 1) := by decide +kernel
theorem dX9_odds_13 : decode cX9_odds 13 = .ok (.invokestatic 90, 3) := by decide +kernel
theorem dX9_odds_16 : decode cX9_odds 16 = .ok (.ifCond .eq 14, 3) := by decide +kernel
theorem dX9_odds_19 : decode cX9_odds 19 = .ok (.aload_n 0, 1) := by decide +kernel
theorem dX9_odds_20 : decode cX9_odds 20 = .ok (.getfield 10, 3) := by decide +kernel
theorem dX9_odds_23 : decode cX9_odds 23 = .ok (.iload_n 1, 1) := by decide +kernel
theorem dX9_odds_24 : decode cX9_odds 24 = .ok (.invokevirtual 132, 3) := by decide +kernel
theorem dX9_odds_27 : decode cX9_odds 27 = .ok (.ifCond .ne 5, 3) := by decide +kernel
theorem dX9_odds_30 : decode cX9_odds 30 = .ok (.iconst (-1), 1) := by decide +kernel
theorem dX9_odds_31 : decode cX9_odds 31 = .ok (.ireturn, 1) := by decide +kernel
theorem dX9_odds_32 : decode cX9_odds 32 = .ok (.aload_n 0, 1) := by decide +kernel
theorem dX9_odds_33 : decode cX9_odds 33 = .ok (.getfield 10, 3) := by decide +kernel
theorem dX9_odds_36 : decode cX9_odds 36 = .ok (.iload_n 1, 1) := by decide +kernel
theorem dX9_odds_37 : decode cX9_odds 37 = .ok (.invokevirtual 135, 3) := by decide +kernel
theorem dX9_odds_40 : decode cX9_odds 40 = .ok (.iconst 1, 1) := by decide +kernel
theorem dX9_odds_41 : decode cX9_odds 41 = .ok (.istore_n 3, 1) := by decide +kernel
theorem dX9_odds_42 : decode cX9_odds 42 = .ok (.iconst 1, 1) := by decide +kernel
theorem dX9_odds_43 : decode cX9_odds 43 = .ok (.istore 4, 2) := by decide +kernel
theorem dX9_odds_45 : decode cX9_odds 45 = .ok (.iconst 1, 1) := by decide +kernel
theorem dX9_odds_46 : decode cX9_odds 46 = .ok (.istore 5, 2) := by decide +kernel
theorem dX9_odds_48 : decode cX9_odds 48 = .ok (.iconst 0, 1) := by decide +kernel
theorem dX9_odds_49 : decode cX9_odds 49 = .ok (.istore 6, 2) := by decide +kernel
theorem dX9_odds_51 : decode cX9_odds 51 = .ok (.iload 6, 2) := by decide +kernel
theorem dX9_odds_53 : decode cX9_odds 53 = .ok (.iload_n 1, 1) := by decide +kernel
theorem dX9_odds_54 : decode cX9_odds 54 = .ok (.if_icmp .ge 52, 3) := by decide +kernel
theorem dX9_odds_57 : decode cX9_odds 57 = .ok (.aload_n 0, 1) := by decide +kernel
theorem dX9_odds_58 : decode cX9_odds 58 = .ok (.getfield 10, 3) := by decide +kernel
theorem dX9_odds_61 : decode cX9_odds 61 = .ok (.iload 6, 2) := by decide +kernel
theorem dX9_odds_63 : decode cX9_odds 63 = .ok (.invokevirtual 224, 3) := by decide +kernel
theorem dX9_odds_66 : decode cX9_odds 66 = .ok (.istore 7, 2) := by decide +kernel
theorem dX9_odds_68 : decode cX9_odds 68 = .ok (.iload 7, 2) := by decide +kernel
theorem dX9_odds_70 : decode cX9_odds 70 = .ok (.bipush 10, 2) := by decide +kernel
theorem dX9_odds_72 : decode cX9_odds 72 = .ok (.if_icmp .le 6, 3) := by decide +kernel
theorem dX9_odds_75 : decode cX9_odds 75 = .ok (.bipush (-2), 2) := by decide +kernel
theorem dX9_odds_77 : decode cX9_odds 77 = .ok (.ireturn, 1) := by decide +kernel
theorem dX9_odds_78 : decode cX9_odds 78 = .ok (.iload_n 3, 1) := by decide +kernel
theorem dX9_odds_79 : decode cX9_odds 79 = .ok (.iload 7, 2) := by decide +kernel
theorem dX9_odds_81 : decode cX9_odds 81 = .ok (.imul, 1) := by decide +kernel
theorem dX9_odds_82 : decode cX9_odds 82 = .ok (.istore_n 3, 1) := by decide +kernel
theorem dX9_odds_83 : decode cX9_odds 83 = .ok (.iload 4, 2) := by decide +kernel
theorem dX9_odds_85 : decode cX9_odds 85 = .ok (.bipush 10, 2) := by decide +kernel
theorem dX9_odds_87 : decode cX9_odds 87 = .ok (.iload 7, 2) := by decide +kernel
theorem dX9_odds_89 : decode cX9_odds 89 = .ok (.isub, 1) := by decide +kernel
theorem dX9_odds_90 : decode cX9_odds 90 = .ok (.imul, 1) := by decide +kernel
theorem dX9_odds_91 : decode cX9_odds 91 = .ok (.istore 4, 2) := by decide +kernel
theorem dX9_odds_93 : decode cX9_odds 93 = .ok (.iload 5, 2) := by decide +kernel
theorem dX9_odds_95 : decode cX9_odds 95 = .ok (.bipush 10, 2) := by decide +kernel
theorem dX9_odds_97 : decode cX9_odds 97 = .ok (.imul, 1) := by decide +kernel
theorem dX9_odds_98 : decode cX9_odds 98 = .ok (.istore 5, 2) := by decide +kernel
theorem dX9_odds_100 : decode cX9_odds 100 = .ok (.iinc 6 1, 3) := by decide +kernel
theorem dX9_odds_103 : decode cX9_odds 103 = .ok (.goto (-52), 3) := by decide +kernel
theorem dX9_odds_106 : decode cX9_odds 106 = .ok (.iload 5, 2) := by decide +kernel
theorem dX9_odds_108 : decode cX9_odds 108 = .ok (.iload 4, 2) := by decide +kernel
theorem dX9_odds_110 : decode cX9_odds 110 = .ok (.isub, 1) := by decide +kernel
theorem dX9_odds_111 : decode cX9_odds 111 = .ok (.istore 6, 2) := by decide +kernel
theorem dX9_odds_113 : decode cX9_odds 113 = .ok (.iload_n 2, 1) := by decide +kernel
theorem dX9_odds_114 : decode cX9_odds 114 = .ok (.iconst 4, 1) := by decide +kernel
theorem dX9_odds_115 : decode cX9_odds 115 = .ok (.if_icmp .ge 16, 3) := by decide +kernel
theorem dX9_odds_118 : decode cX9_odds 118 = .ok (.iload_n 2, 1) := by decide +kernel
theorem dX9_odds_119 : decode cX9_odds 119 = .ok (.iconst 2, 1) := by decide +kernel
theorem dX9_odds_120 : decode cX9_odds 120 = .ok (.if_icmp .ge 7, 3) := by decide +kernel
theorem dX9_odds_123 : decode cX9_odds 123 = .ok (.iload_n 3, 1) := by decide +kernel
theorem dX9_odds_124 : decode cX9_odds 124 = .ok (.goto 5, 3) := by decide +kernel
theorem dX9_odds_127 : decode cX9_odds 127 = .ok (.iload 4, 2) := by decide +kernel
theorem dX9_odds_129 : decode cX9_odds 129 = .ok (.istore 6, 2) := by decide +kernel
theorem dX9_odds_131 : decode cX9_odds 131 = .ok (.iload 6, 2) := by decide +kernel
theorem dX9_odds_133 : decode cX9_odds 133 = .ok (.iload 5, 2) := by decide +kernel
theorem dX9_odds_135 : decode cX9_odds 135 = .ok (.invokestatic 300, 3) := by decide +kernel
theorem dX9_odds_138 : decode cX9_odds 138 = .ok (.istore 7, 2) := by decide +kernel
theorem dX9_odds_140 : decode cX9_odds 140 = .ok (.iload_n 2, 1) := by decide +kernel
theorem dX9_odds_141 : decode cX9_odds 141 = .ok (.iconst 2, 1) := by decide +kernel
theorem dX9_odds_142 : decode cX9_odds 142 = .ok (.irem, 1) := by decide +kernel
theorem dX9_odds_143 : decode cX9_odds 143 = .ok (.ifCond .ne 8, 3) := by decide +kernel
theorem dX9_odds_146 : decode cX9_odds 146 = .ok (.iload 6, 2) := by decide +kernel
theorem dX9_odds_148 : decode cX9_odds 148 = .ok (.goto 5, 3) := by decide +kernel
theorem dX9_odds_151 : decode cX9_odds 151 = .ok (.iload 5, 2) := by decide +kernel
theorem dX9_odds_153 : decode cX9_odds 153 = .ok (.iload 7, 2) := by decide +kernel
theorem dX9_odds_155 : decode cX9_odds 155 = .ok (.idiv, 1) := by decide +kernel
theorem dX9_odds_156 : decode cX9_odds 156 = .ok (.ireturn, 1) := by decide +kernel
theorem dX9_commonDivisor_0 : decode cX9_commonDivisor 0 = .ok (.iload_n 0, 1) := by decide +kernel
theorem dX9_commonDivisor_1 : decode cX9_commonDivisor 1 = .ok (.istore_n 2, 1) := by decide +kernel
theorem dX9_commonDivisor_2 : decode cX9_commonDivisor 2 = .ok (.iload_n 1, 1) := by decide +kernel
theorem dX9_commonDivisor_3 : decode cX9_commonDivisor 3 = .ok (.istore_n 3, 1) := by decide +kernel
theorem dX9_commonDivisor_4 : decode cX9_commonDivisor 4 = .ok (.iconst 0, 1) := by decide +kernel
theorem dX9_commonDivisor_5 : decode cX9_commonDivisor 5 = .ok (.istore 4, 2) := by decide +kernel
theorem dX9_commonDivisor_7 : decode cX9_commonDivisor 7 = .ok (.iload 4, 2) := by decide +kernel
theorem dX9_commonDivisor_9 : decode cX9_commonDivisor 9 = .ok (.bipush 100, 2) := by decide +kernel
theorem dX9_commonDivisor_11 : decode cX9_commonDivisor 11 = .ok (.if_icmp .ge 23, 3) := by decide +kernel
theorem dX9_commonDivisor_14 : decode cX9_commonDivisor 14 = .ok (.iload_n 3, 1) := by decide +kernel
theorem dX9_commonDivisor_15 : decode cX9_commonDivisor 15 = .ok (.ifCond .eq 19, 3) := by decide +kernel
theorem dX9_commonDivisor_18 : decode cX9_commonDivisor 18 = .ok (.iload_n 2, 1) := by decide +kernel
theorem dX9_commonDivisor_19 : decode cX9_commonDivisor 19 = .ok (.iload_n 3, 1) := by decide +kernel
theorem dX9_commonDivisor_20 : decode cX9_commonDivisor 20 = .ok (.irem, 1) := by decide +kernel
theorem dX9_commonDivisor_21 : decode cX9_commonDivisor 21 = .ok (.istore 5, 2) := by decide +kernel
theorem dX9_commonDivisor_23 : decode cX9_commonDivisor 23 = .ok (.iload_n 3, 1) := by decide +kernel
theorem dX9_commonDivisor_24 : decode cX9_commonDivisor 24 = .ok (.istore_n 2, 1) := by decide +kernel
theorem dX9_commonDivisor_25 : decode cX9_commonDivisor 25 = .ok (.iload 5, 2) := by decide +kernel
theorem dX9_commonDivisor_27 : decode cX9_commonDivisor 27 = .ok (.istore_n 3, 1) := by decide +kernel
theorem dX9_commonDivisor_28 : decode cX9_commonDivisor 28 = .ok (.iinc 4 1, 3) := by decide +kernel
theorem dX9_commonDivisor_31 : decode cX9_commonDivisor 31 = .ok (.goto (-24), 3) := by decide +kernel
theorem dX9_commonDivisor_34 : decode cX9_commonDivisor 34 = .ok (.iload_n 2, 1) := by decide +kernel
theorem dX9_commonDivisor_35 : decode cX9_commonDivisor 35 = .ok (.iconst 1, 1) := by decide +kernel
theorem dX9_commonDivisor_36 : decode cX9_commonDivisor 36 = .ok (.invokestatic 199, 3) := by decide +kernel
theorem dX9_commonDivisor_39 : decode cX9_commonDivisor 39 = .ok (.ireturn, 1) := by decide +kernel
theorem dX9_within_0 : decode cX9_within 0 = .ok (.iload_n 0, 1) := by decide +kernel
theorem dX9_within_1 : decode cX9_within 1 = .ok (.iload_n 1, 1) := by decide +kernel
theorem dX9_within_2 : decode cX9_within 2 = .ok (.if_icmp .lt 12, 3) := by decide +kernel
theorem dX9_within_5 : decode cX9_within 5 = .ok (.iload_n 0, 1) := by decide +kernel
theorem dX9_within_6 : decode cX9_within 6 = .ok (.iload_n 2, 1) := by decide +kernel
theorem dX9_within_7 : decode cX9_within 7 = .ok (.if_icmp .gt 7, 3) := by decide +kernel
theorem dX9_within_10 : decode cX9_within 10 = .ok (.iconst 1, 1) := by decide +kernel
theorem dX9_within_11 : decode cX9_within 11 = .ok (.goto 4, 3) := by decide +kernel
theorem dX9_within_14 : decode cX9_within 14 = .ok (.iconst 0, 1) := by decide +kernel
theorem dX9_within_15 : decode cX9_within 15 = .ok (.ireturn, 1) := by decide +kernel
theorem dX9_clamp_0 : decode cX9_clamp 0 = .ok (.iload_n 1, 1) := by decide +kernel
theorem dX9_clamp_1 : decode cX9_clamp 1 = .ok (.iload_n 0, 1) := by decide +kernel
theorem dX9_clamp_2 : decode cX9_clamp 2 = .ok (.iload_n 2, 1) := by decide +kernel
theorem dX9_clamp_3 : decode cX9_clamp 3 = .ok (.invokestatic 303, 3) := by decide +kernel
theorem dX9_clamp_6 : decode cX9_clamp 6 = .ok (.invokestatic 199, 3) := by decide +kernel
theorem dX9_clamp_9 : decode cX9_clamp 9 = .ok (.ireturn, 1) := by decide +kernel
set_option maxRecDepth 20000 in
theorem ggX9_has_X9_within : GoodIn wsX9_has wsX9_within := goodIn_r _ [4] (by decide +kernel) (by decide +kernel)
set_option maxRecDepth 20000 in
theorem gX9_has_X9_within : GoodIn wsX9_has (va_wsS RX9 90 yX9_within wsX9_within) := goodIn_app (goodIn_of _ (by decide +kernel)) ggX9_has_X9_within
theorem dX9_has_0 : decode cX9_has 0 = .ok (.iload_n 1, 1) := by decide +kernel
theorem dX9_has_1 : decode cX9_has 1 = .ok (.iconst 0, 1) := by decide +kernel
theorem dX9_has_2 : decode cX9_has 2 = .ok (.bipush 31, 2) := by decide +kernel
theorem dX9_has_4 : decode cX9_has 4 = .ok (.invokestatic 90, 3) := by decide +kernel
theorem dX9_has_7 : decode cX9_has 7 = .ok (.ifCond .eq 16, 3) := by decide +kernel
theorem dX9_has_10 : decode cX9_has 10 = .ok (.iload_n 0, 1) := by decide +kernel
theorem dX9_has_11 : decode cX9_has 11 = .ok (.iload_n 1, 1) := by decide +kernel
theorem dX9_has_12 : decode cX9_has 12 = .ok (.iushr, 1) := by decide +kernel
theorem dX9_has_13 : decode cX9_has 13 = .ok (.iconst 1, 1) := by decide +kernel
theorem dX9_has_14 : decode cX9_has 14 = .ok (.iand, 1) := by decide +kernel
theorem dX9_has_15 : decode cX9_has 15 = .ok (.iconst 1, 1) := by decide +kernel
theorem dX9_has_16 : decode cX9_has 16 = .ok (.if_icmp .ne 7, 3) := by decide +kernel
theorem dX9_has_19 : decode cX9_has 19 = .ok (.iconst 1, 1) := by decide +kernel
theorem dX9_has_20 : decode cX9_has 20 = .ok (.goto 4, 3) := by decide +kernel
theorem dX9_has_23 : decode cX9_has 23 = .ok (.iconst 0, 1) := by decide +kernel
theorem dX9_has_24 : decode cX9_has 24 = .ok (.ireturn, 1) := by decide +kernel
theorem dX9_at_0 : decode cX9_at 0 = .ok (.iload_n 1, 1) := by decide +kernel
theorem dX9_at_1 : decode cX9_at 1 = .ok (.ifCond .lt 15, 3) := by decide +kernel
theorem dX9_at_4 : decode cX9_at 4 = .ok (.iload_n 1, 1) := by decide +kernel
theorem dX9_at_5 : decode cX9_at 5 = .ok (.aload_n 0, 1) := by decide +kernel
theorem dX9_at_6 : decode cX9_at 6 = .ok (.arraylength, 1) := by decide +kernel
theorem dX9_at_7 : decode cX9_at 7 = .ok (.if_icmp .ge 9, 3) := by decide +kernel
theorem dX9_at_10 : decode cX9_at 10 = .ok (.aload_n 0, 1) := by decide +kernel
theorem dX9_at_11 : decode cX9_at 11 = .ok (.iload_n 1, 1) := by decide +kernel
theorem dX9_at_12 : decode cX9_at 12 = .ok (.iaload, 1) := by decide +kernel
theorem dX9_at_13 : decode cX9_at 13 = .ok (.goto 4, 3) := by decide +kernel
theorem dX9_at_16 : decode cX9_at 16 = .ok (.iconst 0, 1) := by decide +kernel
theorem dX9_at_17 : decode cX9_at 17 = .ok (.ireturn, 1) := by decide +kernel
theorem dX9_put_0 : decode cX9_put 0 = .ok (.iload_n 1, 1) := by decide +kernel
theorem dX9_put_1 : decode cX9_put 1 = .ok (.ifCond .lt 13, 3) := by decide +kernel
theorem dX9_put_4 : decode cX9_put 4 = .ok (.iload_n 1, 1) := by decide +kernel
theorem dX9_put_5 : decode cX9_put 5 = .ok (.aload_n 0, 1) := by decide +kernel
theorem dX9_put_6 : decode cX9_put 6 = .ok (.arraylength, 1) := by decide +kernel
theorem dX9_put_7 : decode cX9_put 7 = .ok (.if_icmp .ge 7, 3) := by decide +kernel
theorem dX9_put_10 : decode cX9_put 10 = .ok (.aload_n 0, 1) := by decide +kernel
theorem dX9_put_11 : decode cX9_put 11 = .ok (.iload_n 1, 1) := by decide +kernel
theorem dX9_put_12 : decode cX9_put 12 = .ok (.iload_n 2, 1) := by decide +kernel
theorem dX9_put_13 : decode cX9_put 13 = .ok (.iastore, 1) := by decide +kernel
theorem dX9_put_14 : decode cX9_put 14 = .ok (.return_, 1) := by decide +kernel
set_option maxRecDepth 20000 in
theorem ggX9_lowestOf_X9_has : GoodIn wsX9_lowestOf wsX9_has := goodIn_r _ [4, 5, 6, 3, 7] (by decide +kernel) (by decide +kernel)
set_option maxRecDepth 20000 in
theorem gX9_lowestOf_X9_has : GoodIn wsX9_lowestOf (va_wsS RX9 290 yX9_has wsX9_has) := goodIn_app (goodIn_of _ (by decide +kernel)) ggX9_lowestOf_X9_has
theorem dX9_lowestOf_0 : decode cX9_lowestOf 0 = .ok (.iconst 0, 1) := by decide +kernel
theorem dX9_lowestOf_1 : decode cX9_lowestOf 1 = .ok (.istore_n 1, 1) := by decide +kernel
theorem dX9_lowestOf_2 : decode cX9_lowestOf 2 = .ok (.iload_n 1, 1) := by decide +kernel
theorem dX9_lowestOf_3 : decode cX9_lowestOf 3 = .ok (.bipush 31, 2) := by decide +kernel
theorem dX9_lowestOf_5 : decode cX9_lowestOf 5 = .ok (.if_icmp .ge 17, 3) := by decide +kernel
theorem dX9_lowestOf_8 : decode cX9_lowestOf 8 = .ok (.iload_n 0, 1) := by decide +kernel
theorem dX9_lowestOf_9 : decode cX9_lowestOf 9 = .ok (.iload_n 1, 1) := by decide +kernel
theorem dX9_lowestOf_10 : decode cX9_lowestOf 10 = .ok (.invokestatic 290, 3) := by decide +kernel
theorem dX9_lowestOf_13 : decode cX9_lowestOf 13 = .ok (.ifCond .ne 9, 3) := by decide +kernel
theorem dX9_lowestOf_16 : decode cX9_lowestOf 16 = .ok (.iinc 1 1, 3) := by decide +kernel
theorem dX9_lowestOf_19 : decode cX9_lowestOf 19 = .ok (.goto (-17), 3) := by decide +kernel
theorem dX9_lowestOf_22 : decode cX9_lowestOf 22 = .ok (.iload_n 1, 1) := by decide +kernel
theorem dX9_lowestOf_23 : decode cX9_lowestOf 23 = .ok (.ireturn, 1) := by decide +kernel
set_option maxRecDepth 20000 in
theorem ggX9_sumOf_X9_has : GoodIn wsX9_sumOf wsX9_has := goodIn_r _ [4, 5, 6, 3, 7] (by decide +kernel) (by decide +kernel)
set_option maxRecDepth 20000 in
theorem gX9_sumOf_X9_has : GoodIn wsX9_sumOf (va_wsS RX9 290 yX9_has wsX9_has) := goodIn_app (goodIn_of _ (by decide +kernel)) ggX9_sumOf_X9_has
theorem dX9_sumOf_0 : decode cX9_sumOf 0 = .ok (.iconst 0, 1) := by decide +kernel
theorem dX9_sumOf_1 : decode cX9_sumOf 1 = .ok (.istore_n 2, 1) := by decide +kernel
theorem dX9_sumOf_2 : decode cX9_sumOf 2 = .ok (.iconst 0, 1) := by decide +kernel
theorem dX9_sumOf_3 : decode cX9_sumOf 3 = .ok (.istore_n 3, 1) := by decide +kernel
theorem dX9_sumOf_4 : decode cX9_sumOf 4 = .ok (.iload_n 3, 1) := by decide +kernel
theorem dX9_sumOf_5 : decode cX9_sumOf 5 = .ok (.aload_n 0, 1) := by decide +kernel
theorem dX9_sumOf_6 : decode cX9_sumOf 6 = .ok (.arraylength, 1) := by decide +kernel
theorem dX9_sumOf_7 : decode cX9_sumOf 7 = .ok (.if_icmp .ge 23, 3) := by decide +kernel
theorem dX9_sumOf_10 : decode cX9_sumOf 10 = .ok (.iload_n 1, 1) := by decide +kernel
theorem dX9_sumOf_11 : decode cX9_sumOf 11 = .ok (.iload_n 3, 1) := by decide +kernel
theorem dX9_sumOf_12 : decode cX9_sumOf 12 = .ok (.invokestatic 290, 3) := by decide +kernel
theorem dX9_sumOf_15 : decode cX9_sumOf 15 = .ok (.ifCond .eq 9, 3) := by decide +kernel
theorem dX9_sumOf_18 : decode cX9_sumOf 18 = .ok (.iload_n 2, 1) := by decide +kernel
theorem dX9_sumOf_19 : decode cX9_sumOf 19 = .ok (.aload_n 0, 1) := by decide +kernel
theorem dX9_sumOf_20 : decode cX9_sumOf 20 = .ok (.iload_n 3, 1) := by decide +kernel
theorem dX9_sumOf_21 : decode cX9_sumOf 21 = .ok (.iaload, 1) := by decide +kernel
theorem dX9_sumOf_22 : decode cX9_sumOf 22 = .ok (.iadd, 1) := by decide +kernel
theorem dX9_sumOf_23 : decode cX9_sumOf 23 = .ok (.istore_n 2, 1) := by decide +kernel
theorem dX9_sumOf_24 : decode cX9_sumOf 24 = .ok (.iinc 3 1, 3) := by decide +kernel
theorem dX9_sumOf_27 : decode cX9_sumOf 27 = .ok (.goto (-23), 3) := by decide +kernel
theorem dX9_sumOf_30 : decode cX9_sumOf 30 = .ok (.iload_n 2, 1) := by decide +kernel
theorem dX9_sumOf_31 : decode cX9_sumOf 31 = .ok (.ireturn, 1) := by decide +kernel
theorem dX10_init_0 : decode cX10_init 0 = .ok (.aload_n 0, 1) := by decide +kernel
theorem dX10_init_1 : decode cX10_init 1 = .ok (.invokespecial 1, 3) := by decide +kernel
theorem dX10_init_4 : decode cX10_init 4 = .ok (.aload_n 0, 1) := by decide +kernel
theorem dX10_init_5 : decode cX10_init 5 = .ok (.bipush 76, 2) := by decide +kernel
theorem dX10_init_7 : decode cX10_init 7 = .ok (.newarray .int, 2) := by decide +kernel
theorem dX10_init_9 : decode cX10_init 9 = .ok (.putfield 7, 3) := by decide +kernel
theorem dX10_init_12 : decode cX10_init 12 = .ok (.aload_n 0, 1) := by decide +kernel
theorem dX10_init_13 : decode cX10_init 13 = .ok (.bipush 76, 2) := by decide +kernel
theorem dX10_init_15 : decode cX10_init 15 = .ok (.newarray .int, 2) := by decide +kernel
theorem dX10_init_17 : decode cX10_init 17 = .ok (.putfield 13, 3) := by decide +kernel
theorem dX10_init_20 : decode cX10_init 20 = .ok (.aload_n 0, 1) := by decide +kernel
theorem dX10_init_21 : decode cX10_init 21 = .ok (.bipush 76, 2) := by decide +kernel
theorem dX10_init_23 : decode cX10_init 23 = .ok (.newarray .int, 2) := by decide +kernel
theorem dX10_init_25 : decode cX10_init 25 = .ok (.putfield 16, 3) := by decide +kernel
theorem dX10_init_28 : decode cX10_init 28 = .ok (.aload_n 0, 1) := by decide +kernel
theorem dX10_init_29 : decode cX10_init 29 = .ok (.bipush 16, 2) := by decide +kernel
theorem dX10_init_31 : decode cX10_init 31 = .ok (.newarray .int, 2) := by decide +kernel
theorem dX10_init_33 : decode cX10_init 33 = .ok (.putfield 19, 3) := by decide +kernel
theorem dX10_init_36 : decode cX10_init 36 = .ok (.aload_n 0, 1) := by decide +kernel
theorem dX10_init_37 : decode cX10_init 37 = .ok (.bipush 8, 2) := by decide +kernel
theorem dX10_init_39 : decode cX10_init 39 = .ok (.newarray .int, 2) := by decide +kernel
theorem dX10_init_41 : decode cX10_init 41 = .ok (.putfield 22, 3) := by decide +kernel
theorem dX10_init_44 : decode cX10_init 44 = .ok (.aload_n 0, 1) := by decide +kernel
theorem dX10_init_45 : decode cX10_init 45 = .ok (.sipush 384, 3) := by decide +kernel
theorem dX10_init_48 : decode cX10_init 48 = .ok (.newarray .int, 2) := by decide +kernel
theorem dX10_init_50 : decode cX10_init 50 = .ok (.putfield 25, 3) := by decide +kernel
theorem dX10_init_53 : decode cX10_init 53 = .ok (.aload_n 0, 1) := by decide +kernel
theorem dX10_init_54 : decode cX10_init 54 = .ok (.sipush 260, 3) := by decide +kernel
theorem dX10_init_57 : decode cX10_init 57 = .ok (.newarray .byte, 2) := by decide +kernel
theorem dX10_init_59 : decode cX10_init 59 = .ok (.putfield 28, 3) := by decide +kernel
theorem dX10_init_62 : decode cX10_init 62 = .ok (.aload_n 0, 1) := by decide +kernel
theorem dX10_init_63 : decode cX10_init 63 = .ok (.sipush 260, 3) := by decide +kernel
theorem dX10_init_66 : decode cX10_init 66 = .ok (.newarray .int, 2) := by decide +kernel
theorem dX10_init_68 : decode cX10_init 68 = .ok (.putfield 32, 3) := by decide +kernel
theorem dX10_init_71 : decode cX10_init 71 = .ok (.aload_n 0, 1) := by decide +kernel
theorem dX10_init_72 : decode cX10_init 72 = .ok (.sipush 260, 3) := by decide +kernel
theorem dX10_init_75 : decode cX10_init 75 = .ok (.newarray .int, 2) := by decide +kernel
theorem dX10_init_77 : decode cX10_init 77 = .ok (.putfield 35, 3) := by decide +kernel
theorem dX10_init_80 : decode cX10_init 80 = .ok (.aload_n 0, 1) := by decide +kernel
theorem dX10_init_81 : decode cX10_init 81 = .ok (.bipush 16, 2) := by decide +kernel
theorem dX10_init_83 : decode cX10_init 83 = .ok (.newarray .int, 2) := by decide +kernel
theorem dX10_init_85 : decode cX10_init 85 = .ok (.putfield 38, 3) := by decide +kernel
theorem dX10_init_88 : decode cX10_init 88 = .ok (.aload_n 0, 1) := by decide +kernel
theorem dX10_init_89 : decode cX10_init 89 = .ok (.bipush 16, 2) := by decide +kernel
theorem dX10_init_91 : decode cX10_init 91 = .ok (.newarray .int, 2) := by decide +kernel
theorem dX10_init_93 : decode cX10_init 93 = .ok (.putfield 41, 3) := by decide +kernel
theorem dX10_init_96 : decode cX10_init 96 = .ok (.aload_n 0, 1) := by decide +kernel
theorem dX10_init_97 : decode cX10_init 97 = .ok (.bipush 16, 2) := by decide +kernel
theorem dX10_init_99 : decode cX10_init 99 = .ok (.newarray .int, 2) := by decide +kernel
theorem dX10_init_101 : decode cX10_init 101 = .ok (.putfield 44, 3) := by decide +kernel
theorem dX10_init_104 : decode cX10_init 104 = .ok (.aload_n 0, 1) := by decide +kernel
theorem dX10_init_105 : decode cX10_init 105 = .ok (.bipush 16, 2) := by decide +kernel
theorem dX10_init_107 : decode cX10_init 107 = .ok (.newarray .int, 2) := by decide +kernel
theorem dX10_init_109 : decode cX10_init 109 = .ok (.putfield 47, 3) := by decide +kernel
theorem dX10_init_112 : decode cX10_init 112 = .ok (.aload_n 0, 1) := by decide +kernel
theorem dX10_init_113 : decode cX10_init 113 = .ok (.sipush 260, 3) := by decide +kernel
theorem dX10_init_116 : decode cX10_init 116 = .ok (.newarray .int, 2) := by decide +kernel
theorem dX10_init_118 : decode cX10_init 118 = .ok (.putfield 50, 3) := by decide +kernel
theorem dX10_init_121 : decode cX10_init 121 = .ok (.aload_n 0, 1) := by decide +kernel
theorem dX10_init_122 : decode cX10_init 122 = .ok (.bipush 16, 2) := by decide +kernel
theorem dX10_init_124 : decode cX10_init 124 = .ok (.newarray .int, 2) := by decide +kernel
theorem dX10_init_126 : decode cX10_init 126 = .ok (.putfield 53, 3) := by decide +kernel
theorem dX10_init_129 : decode cX10_init 129 = .ok (.aload_n 0, 1) := by decide +kernel
theorem dX10_init_130 : decode cX10_init 130 = .ok (.bipush 16, 2) := by decide +kernel
theorem dX10_init_132 : decode cX10_init 132 = .ok (.newarray .int, 2) := by decide +kernel
theorem dX10_init_134 : decode cX10_init 134 = .ok (.putfield 56, 3) := by decide +kernel
theorem dX10_init_137 : decode cX10_init 137 = .ok (.aload_n 0, 1) := by decide +kernel
theorem dX10_init_138 : decode cX10_init 138 = .ok (.bipush 16, 2) := by decide +kernel
theorem dX10_init_140 : decode cX10_init 140 = .ok (.newarray .int, 2) := by decide +kernel
theorem dX10_init_142 : decode cX10_init 142 = .ok (.putfield 59, 3) := by decide +kernel
theorem dX10_init_145 : decode cX10_init 145 = .ok (.aload_n 0, 1) := by decide +kernel
theorem dX10_init_146 : decode cX10_init 146 = .ok (.bipush 16, 2) := by decide +kernel
theorem dX10_init_148 : decode cX10_init 148 = .ok (.newarray .int, 2) := by decide +kernel
theorem dX10_init_150 : decode cX10_init 150 = .ok (.putfield 62, 3) := by decide +kernel
theorem dX10_init_153 : decode cX10_init 153 = .ok (.aload_n 0, 1) := by decide +kernel
theorem dX10_init_154 : decode cX10_init 154 = .ok (.sipush 260, 3) := by decide +kernel
theorem dX10_init_157 : decode cX10_init 157 = .ok (.newarray .int, 2) := by decide +kernel
theorem dX10_init_159 : decode cX10_init 159 = .ok (.putfield 65, 3) := by decide +kernel
theorem dX10_init_162 : decode cX10_init 162 = .ok (.aload_n 0, 1) := by decide +kernel
theorem dX10_init_163 : decode cX10_init 163 = .ok (.bipush 8, 2) := by decide +kernel
theorem dX10_init_165 : decode cX10_init 165 = .ok (.newarray .int, 2) := by decide +kernel
theorem dX10_init_167 : decode cX10_init 167 = .ok (.putfield 68, 3) := by decide +kernel
theorem dX10_init_170 : decode cX10_init 170 = .ok (.aload_n 0, 1) := by decide +kernel
theorem dX10_init_171 : decode cX10_init 171 = .ok (.bipush 48, 2) := by decide +kernel
theorem dX10_init_173 : decode cX10_init 173 = .ok (.newarray .int, 2) := by decide +kernel
theorem dX10_init_175 : decode cX10_init 175 = .ok (.putfield 71, 3) := by decide +kernel
theorem dX10_init_178 : decode cX10_init 178 = .ok (.aload_n 0, 1) := by decide +kernel
theorem dX10_init_179 : decode cX10_init 179 = .ok (.iconst 2, 1) := by decide +kernel
theorem dX10_init_180 : decode cX10_init 180 = .ok (.newarray .int, 2) := by decide +kernel
theorem dX10_init_182 : decode cX10_init 182 = .ok (.putfield 74, 3) := by decide +kernel
theorem dX10_init_185 : decode cX10_init 185 = .ok (.aload_n 0, 1) := by decide +kernel
theorem dX10_init_186 : decode cX10_init 186 = .ok (.iconst 2, 1) := by decide +kernel
theorem dX10_init_187 : decode cX10_init 187 = .ok (.newarray .int, 2) := by decide +kernel
theorem dX10_init_189 : decode cX10_init 189 = .ok (.putfield 77, 3) := by decide +kernel
theorem dX10_init_192 : decode cX10_init 192 = .ok (.aload_n 0, 1) := by decide +kernel
theorem dX10_init_193 : decode cX10_init 193 = .ok (.iconst 2, 1) := by decide +kernel
theorem dX10_init_194 : decode cX10_init 194 = .ok (.newarray .int, 2) := by decide +kernel
theorem dX10_init_196 : decode cX10_init 196 = .ok (.putfield 80, 3) := by decide +kernel
theorem dX10_init_199 : decode cX10_init 199 = .ok (.aload_n 0, 1) := by decide +kernel
theorem dX10_init_200 : decode cX10_init 200 = .ok (.bipush 16, 2) := by decide +kernel
theorem dX10_init_202 : decode cX10_init 202 = .ok (.newarray .int, 2) := by decide +kernel
theorem dX10_init_204 : decode cX10_init 204 = .ok (.putfield 83, 3) := by decide +kernel
theorem dX10_init_207 : decode cX10_init 207 = .ok (.aload_n 0, 1) := by decide +kernel
theorem dX10_init_208 : decode cX10_init 208 = .ok (.ldc 86, 2) := by decide +kernel
theorem dX10_init_210 : decode cX10_init 210 = .ok (.newarray .byte, 2) := by decide +kernel
theorem dX10_init_212 : decode cX10_init 212 = .ok (.putfield 87, 3) := by decide +kernel
theorem dX10_init_215 : decode cX10_init 215 = .ok (.aload_n 0, 1) := by decide +kernel
theorem dX10_init_216 : decode cX10_init 216 = .ok (.ldc 90, 2) := by decide +kernel
theorem dX10_init_218 : decode cX10_init 218 = .ok (.newarray .int, 2) := by decide +kernel
theorem dX10_init_220 : decode cX10_init 220 = .ok (.putfield 91, 3) := by decide +kernel
theorem dX10_init_223 : decode cX10_init 223 = .ok (.aload_n 0, 1) := by decide +kernel
theorem dX10_init_224 : decode cX10_init 224 = .ok (.bipush 16, 2) := by decide +kernel
theorem dX10_init_226 : decode cX10_init 226 = .ok (.newarray .int, 2) := by decide +kernel
theorem dX10_init_228 : decode cX10_init 228 = .ok (.putfield 94, 3) := by decide +kernel
theorem dX10_init_231 : decode cX10_init 231 = .ok (.aload_n 0, 1) := by decide +kernel
theorem dX10_init_232 : decode cX10_init 232 = .ok (.bipush 16, 2) := by decide +kernel
theorem dX10_init_234 : decode cX10_init 234 = .ok (.newarray .int, 2) := by decide +kernel
theorem dX10_init_236 : decode cX10_init 236 = .ok (.putfield 97, 3) := by decide +kernel
theorem dX10_init_239 : decode cX10_init 239 = .ok (.aload_n 0, 1) := by decide +kernel
theorem dX10_init_240 : decode cX10_init 240 = .ok (.bipush 16, 2) := by decide +kernel
theorem dX10_init_242 : decode cX10_init 242 = .ok (.newarray .int, 2) := by decide +kernel
theorem dX10_init_244 : decode cX10_init 244 = .ok (.putfield 100, 3) := by decide +kernel
theorem dX10_init_247 : decode cX10_init 247 = .ok (.aload_n 0, 1) := by decide +kernel
theorem dX10_init_248 : decode cX10_init 248 = .ok (.bipush 16, 2) := by decide +kernel
theorem dX10_init_250 : decode cX10_init 250 = .ok (.newarray .int, 2) := by decide +kernel
theorem dX10_init_252 : decode cX10_init 252 = .ok (.putfield 103, 3) := by decide +kernel
theorem dX10_init_255 : decode cX10_init 255 = .ok (.aload_n 0, 1) := by decide +kernel
theorem dX10_init_256 : decode cX10_init 256 = .ok (.bipush 16, 2) := by decide +kernel
theorem dX10_init_258 : decode cX10_init 258 = .ok (.newarray .int, 2) := by decide +kernel
theorem dX10_init_260 : decode cX10_init 260 = .ok (.putfield 106, 3) := by decide +kernel
theorem dX10_init_263 : decode cX10_init 263 = .ok (.aload_n 0, 1) := by decide +kernel
theorem dX10_init_264 : decode cX10_init 264 = .ok (.bipush 54, 2) := by decide +kernel
theorem dX10_init_266 : decode cX10_init 266 = .ok (.newarray .int, 2) := by decide +kernel
theorem dX10_init_268 : decode cX10_init 268 = .ok (.putfield 109, 3) := by decide +kernel
theorem dX10_init_271 : decode cX10_init 271 = .ok (.aload_n 0, 1) := by decide +kernel
theorem dX10_init_272 : decode cX10_init 272 = .ok (.getfield 7, 3) := by decide +kernel
theorem dX10_init_275 : decode cX10_init 275 = .ok (.bipush 75, 2) := by decide +kernel
theorem dX10_init_277 : decode cX10_init 277 = .ok (.iconst 1, 1) := by decide +kernel
theorem dX10_init_278 : decode cX10_init 278 = .ok (.iastore, 1) := by decide +kernel
theorem dX10_init_279 : decode cX10_init 279 = .ok (.return_, 1) := by decide +kernel
theorem dX10_in_0 : decode cX10_in 0 = .ok (.iload_n 0, 1) := by decide +kernel
theorem dX10_in_1 : decode cX10_in 1 = .ok (.iload_n 1, 1) := by decide +kernel
theorem dX10_in_2 : decode cX10_in 2 = .ok (.if_icmp .lt 12, 3) := by decide +kernel
theorem dX10_in_5 : decode cX10_in 5 = .ok (.iload_n 0, 1) := by decide +kernel
theorem dX10_in_6 : decode cX10_in 6 = .ok (.iload_n 2, 1) := by decide +kernel
theorem dX10_in_7 : decode cX10_in 7 = .ok (.if_icmp .gt 7, 3) := by decide +kernel
theorem dX10_in_10 : decode cX10_in 10 = .ok (.iconst 1, 1) := by decide +kernel
theorem dX10_in_11 : decode cX10_in 11 = .ok (.goto 4, 3) := by decide +kernel
theorem dX10_in_14 : decode cX10_in 14 = .ok (.iconst 0, 1) := by decide +kernel
theorem dX10_in_15 : decode cX10_in 15 = .ok (.ireturn, 1) := by decide +kernel
theorem dX10_min_0 : decode cX10_min 0 = .ok (.iload_n 0, 1) := by decide +kernel
theorem dX10_min_1 : decode cX10_min 1 = .ok (.iload_n 1, 1) := by decide +kernel
theorem dX10_min_2 : decode cX10_min 2 = .ok (.if_icmp .ge 7, 3) := by decide +kernel
theorem dX10_min_5 : decode cX10_min 5 = .ok (.iload_n 0, 1) := by decide +kernel
theorem dX10_min_6 : decode cX10_min 6 = .ok (.goto 4, 3) := by decide +kernel
theorem dX10_min_9 : decode cX10_min 9 = .ok (.iload_n 1, 1) := by decide +kernel
theorem dX10_min_10 : decode cX10_min 10 = .ok (.ireturn, 1) := by decide +kernel
theorem dX10_max_0 : decode cX10_max 0 = .ok (.iload_n 0, 1) := by decide +kernel
theorem dX10_max_1 : decode cX10_max 1 = .ok (.iload_n 1, 1) := by decide +kernel
theorem dX10_max_2 : decode cX10_max 2 = .ok (.if_icmp .le 7, 3) := by decide +kernel
theorem dX10_max_5 : decode cX10_max 5 = .ok (.iload_n 0, 1) := by decide +kernel
theorem dX10_max_6 : decode cX10_max 6 = .ok (.goto 4, 3) := by decide +kernel
theorem dX10_max_9 : decode cX10_max 9 = .ok (.iload_n 1, 1) := by decide +kernel
theorem dX10_max_10 : decode cX10_max 10 = .ok (.ireturn, 1) := by decide +kernel
theorem dX10_has_0 : decode cX10_has 0 = .ok (.iload_n 0, 1) := by decide +kernel
theorem dX10_has_1 : decode cX10_has 1 = .ok (.iload_n 1, 1) := by decide +kernel
theorem dX10_has_2 : decode cX10_has 2 = .ok (.ishr, 1) := by decide +kernel
theorem dX10_has_3 : decode cX10_has 3 = .ok (.iconst 1, 1) := by decide +kernel
theorem dX10_has_4 : decode cX10_has 4 = .ok (.iand, 1) := by decide +kernel
theorem dX10_has_5 : decode cX10_has 5 = .ok (.iconst 1, 1) := by decide +kernel
theorem dX10_has_6 : decode cX10_has 6 = .ok (.if_icmp .ne 7, 3) := by decide +kernel
theorem dX10_has_9 : decode cX10_has 9 = .ok (.iconst 1, 1) := by decide +kernel
theorem dX10_has_10 : decode cX10_has 10 = .ok (.goto 4, 3) := by decide +kernel
theorem dX10_has_13 : decode cX10_has 13 = .ok (.iconst 0, 1) := by decide +kernel
theorem dX10_has_14 : decode cX10_has 14 = .ok (.ireturn, 1) := by decide +kernel
theorem dX10_bits_0 : decode cX10_bits 0 = .ok (.iconst 0, 1) := by decide +kernel
theorem dX10_bits_1 : decode cX10_bits 1 = .ok (.istore_n 1, 1) := by decide +kernel
theorem dX10_bits_2 : decode cX10_bits 2 = .ok (.iconst 0, 1) := by decide +kernel
theorem dX10_bits_3 : decode cX10_bits 3 = .ok (.istore_n 2, 1) := by decide +kernel
theorem dX10_bits_4 : decode cX10_bits 4 = .ok (.iload_n 2, 1) := by decide +kernel
theorem dX10_bits_5 : decode cX10_bits 5 = .ok (.bipush 16, 2) := by decide +kernel
theorem dX10_bits_7 : decode cX10_bits 7 = .ok (.if_icmp .ge 17, 3) := by decide +kernel
theorem dX10_bits_10 : decode cX10_bits 10 = .ok (.iload_n 1, 1) := by decide +kernel
theorem dX10_bits_11 : decode cX10_bits 11 = .ok (.iload_n 0, 1) := by decide +kernel
theorem dX10_bits_12 : decode cX10_bits 12 = .ok (.iload_n 2, 1) := by decide +kernel
theorem dX10_bits_13 : decode cX10_bits 13 = .ok (.ishr, 1) := by decide +kernel
theorem dX10_bits_14 : decode cX10_bits 14 = .ok (.iconst 1, 1) := by decide +kernel
theorem dX10_bits_15 : decode cX10_bits 15 = .ok (.iand, 1) := by decide +kernel
theorem dX10_bits_16 : decode cX10_bits 16 = .ok (.iadd, 1) := by decide +kernel
theorem dX10_bits_17 : decode cX10_bits 17 = .ok (.istore_n 1, 1) := by decide +kernel
theorem dX10_bits_18 : decode cX10_bits 18 = .ok (.iinc 2 1, 3) := by decide +kernel
theorem dX10_bits_21 : decode cX10_bits 21 = .ok (.goto (-17), 3) := by decide +kernel
theorem dX10_bits_24 : decode cX10_bits 24 = .ok (.iload_n 1, 1) := by decide +kernel
theorem dX10_bits_25 : decode cX10_bits 25 = .ok (.ireturn, 1) := by decide +kernel
theorem dX10_copies_0 : decode cX10_copies 0 = .ok (.iconst 0, 1) := by decide +kernel
theorem dX10_copies_1 : decode cX10_copies 1 = .ok (.istore_n 2, 1) := by decide +kernel
theorem dX10_copies_2 : decode cX10_copies 2 = .ok (.iload_n 2, 1) := by decide +kernel
theorem dX10_copies_3 : decode cX10_copies 3 = .ok (.bipush 76, 2) := by decide +kernel
theorem dX10_copies_5 : decode cX10_copies 5 = .ok (.if_icmp .ge 15, 3) := by decide +kernel
theorem dX10_copies_8 : decode cX10_copies 8 = .ok (.aload_n 1, 1) := by decide +kernel
theorem dX10_copies_9 : decode cX10_copies 9 = .ok (.iload_n 2, 1) := by decide +kernel
theorem dX10_copies_10 : decode cX10_copies 10 = .ok (.aload_n 0, 1) := by decide +kernel
theorem dX10_copies_11 : decode cX10_copies 11 = .ok (.iload_n 2, 1) := by decide +kernel
theorem dX10_copies_12 : decode cX10_copies 12 = .ok (.iaload, 1) := by decide +kernel
theorem dX10_copies_13 : decode cX10_copies 13 = .ok (.iastore, 1) := by decide +kernel
theorem dX10_copies_14 : decode cX10_copies 14 = .ok (.iinc 2 1, 3) := by decide +kernel
theorem dX10_copies_17 : decode cX10_copies 17 = .ok (.goto (-15), 3) := by decide +kernel
theorem dX10_copies_20 : decode cX10_copies 20 = .ok (.return_, 1) := by decide +kernel
set_option maxRecDepth 20000 in
theorem ggX10_isTold_X10_in : GoodIn wsX10_isTold wsX10_in := goodIn_r _ [5] (by decide +kernel) (by decide +kernel)
set_option maxRecDepth 20000 in
theorem gX10_isTold_X10_in : GoodIn wsX10_isTold (va_wsS RX10 112 yX10_in wsX10_in) := goodIn_app (goodIn_of _ (by decide +kernel)) ggX10_isTold_X10_in
set_option maxRecDepth 20000 in
theorem ggX10_isTold_X10_has : GoodIn wsX10_isTold wsX10_has := goodIn_r _ [8] (by decide +kernel) (by decide +kernel)
set_option maxRecDepth 20000 in
theorem gX10_isTold_X10_has : GoodIn wsX10_isTold (va_wsS RX10 120 yX10_has wsX10_has) := goodIn_app (goodIn_of _ (by decide +kernel)) ggX10_isTold_X10_has
theorem dX10_isTold_0 : decode cX10_isTold 0 = .ok (.iload_n 1, 1) := by decide +kernel
theorem dX10_isTold_1 : decode cX10_isTold 1 = .ok (.iconst 0, 1) := by decide +kernel
theorem dX10_isTold_2 : decode cX10_isTold 2 = .ok (.bipush 15, 2) := by decide +kernel
theorem dX10_isTold_4 : decode cX10_isTold 4 = .ok (.invokestatic 112, 3) := by decide +kernel
theorem dX10_isTold_7 : decode cX10_isTold 7 = .ok (.ifCond .eq 18, 3) := by decide +kernel
theorem dX10_isTold_10 : decode cX10_isTold 10 = .ok (.aload_n 0, 1) := by decide +kernel
theorem dX10_isTold_11 : decode cX10_isTold 11 = .ok (.getfield 116, 3) := by decide +kernel
theorem dX10_isTold_14 : decode cX10_isTold 14 = .ok (.iload_n 1, 1) := by decide +kernel
theorem dX10_isTold_15 : decode cX10_isTold 15 = .ok (.invokestatic 120, 3) := by decide +kernel
theorem dX10_isTold_18 : decode cX10_isTold 18 = .ok (.ifCond .eq 7, 3) := by decide +kernel
theorem dX10_isTold_21 : decode cX10_isTold 21 = .ok (.iconst 1, 1) := by decide +kernel
theorem dX10_isTold_22 : decode cX10_isTold 22 = .ok (.goto 4, 3) := by decide +kernel
theorem dX10_isTold_25 : decode cX10_isTold 25 = .ok (.iconst 0, 1) := by decide +kernel
theorem dX10_isTold_26 : decode cX10_isTold 26 = .ok (.ireturn, 1) := by decide +kernel
set_option maxRecDepth 20000 in
theorem ggX10_isMan_X10_in : GoodIn wsX10_isMan wsX10_in := goodIn_r _ [5] (by decide +kernel) (by decide +kernel)
set_option maxRecDepth 20000 in
theorem gX10_isMan_X10_in : GoodIn wsX10_isMan (va_wsS RX10 112 yX10_in wsX10_in) := goodIn_app (goodIn_of _ (by decide +kernel)) ggX10_isMan_X10_in
theorem dX10_isMan_0 : decode cX10_isMan 0 = .ok (.iload_n 1, 1) := by decide +kernel
theorem dX10_isMan_1 : decode cX10_isMan 1 = .ok (.iconst 0, 1) := by decide +kernel
theorem dX10_isMan_2 : decode cX10_isMan 2 = .ok (.bipush 7, 2) := by decide +kernel
theorem dX10_isMan_4 : decode cX10_isMan 4 = .ok (.invokestatic 112, 3) := by decide +kernel
theorem dX10_isMan_7 : decode cX10_isMan 7 = .ok (.ifCond .eq 20, 3) := by decide +kernel
theorem dX10_isMan_10 : decode cX10_isMan 10 = .ok (.aload_n 0, 1) := by decide +kernel
theorem dX10_isMan_11 : decode cX10_isMan 11 = .ok (.getfield 7, 3) := by decide +kernel
theorem dX10_isMan_14 : decode cX10_isMan 14 = .ok (.bipush 48, 2) := by decide +kernel
theorem dX10_isMan_16 : decode cX10_isMan 16 = .ok (.iload_n 1, 1) := by decide +kernel
theorem dX10_isMan_17 : decode cX10_isMan 17 = .ok (.iadd, 1) := by decide +kernel
theorem dX10_isMan_18 : decode cX10_isMan 18 = .ok (.iaload, 1) := by decide +kernel
theorem dX10_isMan_19 : decode cX10_isMan 19 = .ok (.iconst 1, 1) := by decide +kernel
theorem dX10_isMan_20 : decode cX10_isMan 20 = .ok (.if_icmp .ne 7, 3) := by decide +kernel
theorem dX10_isMan_23 : decode cX10_isMan 23 = .ok (.iconst 1, 1) := by decide +kernel
theorem dX10_isMan_24 : decode cX10_isMan 24 = .ok (.goto 4, 3) := by decide +kernel
theorem dX10_isMan_27 : decode cX10_isMan 27 = .ok (.iconst 0, 1) := by decide +kernel
theorem dX10_isMan_28 : decode cX10_isMan 28 = .ok (.ireturn, 1) := by decide +kernel
set_option maxRecDepth 20000 in
theorem ggX10_menAt_X10_isMan : GoodIn wsX10_menAt wsX10_isMan := goodIn_r _ [6, 1, 7, 8, 5, 9, 10, 11, 12, 13, 14, 15, 16, 17, 18, 19, 20, 21, 22, 23, 24, 25, 26, 27, 28, 29, 30, 31, 32, 33, 34, 35, 36, 37, 38, 39, 40, 41, 42, 43, 44, 45, 46, 47, 48, 49, 50, 51, 52, 53, 54, 55, 56, 57, 58, 59, 60, 61] (by decide +kernel) (by decide +kernel)
set_option maxRecDepth 20000 in
theorem gX10_menAt_X10_isMan : GoodIn wsX10_menAt (wsV RX10 124 RX10 yX10_isMan wsX10_isMan) := goodIn_app (goodIn_of _ (by decide +kernel)) ggX10_menAt_X10_isMan
theorem dX10_menAt_0 : decode cX10_menAt 0 = .ok (.iconst 0, 1) := by decide +kernel
theorem dX10_menAt_1 : decode cX10_menAt 1 = .ok (.istore_n 2, 1) := by decide +kernel
theorem dX10_menAt_2 : decode cX10_menAt 2 = .ok (.iconst 0, 1) := by decide +kernel
theorem dX10_menAt_3 : decode cX10_menAt 3 = .ok (.istore_n 3, 1) := by decide +kernel
theorem dX10_menAt_4 : decode cX10_menAt 4 = .ok (.iload_n 3, 1) := by decide +kernel
theorem dX10_menAt_5 : decode cX10_menAt 5 = .ok (.bipush 8, 2) := by decide +kernel
theorem dX10_menAt_7 : decode cX10_menAt 7 = .ok (.if_icmp .ge 36, 3) := by decide +kernel
theorem dX10_menAt_10 : decode cX10_menAt 10 = .ok (.aload_n 0, 1) := by decide +kernel
theorem dX10_menAt_11 : decode cX10_menAt 11 = .ok (.iload_n 3, 1) := by decide +kernel
theorem dX10_menAt_12 : decode cX10_menAt 12 = .ok (.invokevirtual 124, 3) := by decide +kernel
theorem dX10_menAt_15 : decode cX10_menAt 15 = .ok (.ifCond .eq 22, 3) := by decide +kernel
theorem dX10_menAt_18 : decode cX10_menAt 18 = .ok (.aload_n 0, 1) := by decide +kernel
theorem dX10_menAt_19 : decode cX10_menAt 19 = .ok (.getfield 7, 3) := by decide +kernel
theorem dX10_menAt_22 : decode cX10_menAt 22 = .ok (.bipush 56, 2) := by decide +kernel
theorem dX10_menAt_24 : decode cX10_menAt 24 = .ok (.iload_n 3, 1) := by decide +kernel
theorem dX10_menAt_25 : decode cX10_menAt 25 = .ok (.iadd, 1) := by decide +kernel
theorem dX10_menAt_26 : decode cX10_menAt 26 = .ok (.iaload, 1) := by decide +kernel
theorem dX10_menAt_27 : decode cX10_menAt 27 = .ok (.iload_n 1, 1) := by decide +kernel
theorem dX10_menAt_28 : decode cX10_menAt 28 = .ok (.if_icmp .ne 9, 3) := by decide +kernel
theorem dX10_menAt_31 : decode cX10_menAt 31 = .ok (.iload_n 2, 1) := by decide +kernel
theorem dX10_menAt_32 : decode cX10_menAt 32 = .ok (.iconst 1, 1) := by decide +kernel
theorem dX10_menAt_33 : decode cX10_menAt 33 = .ok (.iload_n 3, 1) := by decide +kernel
theorem dX10_menAt_34 : decode cX10_menAt 34 = .ok (.ishl, 1) := by decide +kernel
theorem dX10_menAt_35 : decode cX10_menAt 35 = .ok (.ior, 1) := by decide +kernel
theorem dX10_menAt_36 : decode cX10_menAt 36 = .ok (.istore_n 2, 1) := by decide +kernel
theorem dX10_menAt_37 : decode cX10_menAt 37 = .ok (.iinc 3 1, 3) := by decide +kernel
theorem dX10_menAt_40 : decode cX10_menAt 40 = .ok (.goto (-36), 3) := by decide +kernel
theorem dX10_menAt_43 : decode cX10_menAt 43 = .ok (.iload_n 2, 1) := by decide +kernel
theorem dX10_menAt_44 : decode cX10_menAt 44 = .ok (.ireturn, 1) := by decide +kernel
set_option maxRecDepth 20000 in
theorem ggX10_guarded_X10_isMan : GoodIn wsX10_guarded wsX10_isMan := goodIn_r _ [6, 1, 7, 8, 5, 9, 10, 11, 12, 13, 14, 15, 16, 17, 18, 19, 20, 21, 22, 23, 24, 25, 26, 27, 28, 29, 30, 31, 32, 33, 34, 35, 36, 37, 38, 39, 40, 41, 42, 43, 44, 45, 46, 47, 48, 49, 50, 51, 52, 53, 54, 55, 56, 57, 58, 59, 60, 61] (by decide +kernel) (by decide +kernel)
set_option maxRecDepth 20000 in
theorem gX10_guarded_X10_isMan : GoodIn wsX10_guarded (wsV RX10 124 RX10 yX10_isMan wsX10_isMan) := goodIn_app (goodIn_of _ (by decide +kernel)) ggX10_guarded_X10_isMan
theorem dX10_guarded_0 : decode cX10_guarded 0 = .ok (.iconst 0, 1) := by decide +kernel
theorem dX10_guarded_1 : decode cX10_guarded 1 = .ok (.istore_n 1, 1) := by decide +kernel
theorem dX10_guarded_2 : decode cX10_guarded 2 = .ok (.iconst 0, 1) := by decide +kernel
theorem dX10_guarded_3 : decode cX10_guarded 3 = .ok (.istore_n 2, 1) := by decide +kernel
theorem dX10_guarded_4 : decode cX10_guarded 4 = .ok (.iload_n 2, 1) := by decide +kernel
theorem dX10_guarded_5 : decode cX10_guarded 5 = .ok (.bipush 8, 2) := by decide +kernel
theorem dX10_guarded_7 : decode cX10_guarded 7 = .ok (.if_icmp .ge 31, 3) := by decide +kernel
theorem dX10_guarded_10 : decode cX10_guarded 10 = .ok (.aload_n 0, 1) := by decide +kernel
theorem dX10_guarded_11 : decode cX10_guarded 11 = .ok (.iload_n 2, 1) := by decide +kernel
theorem dX10_guarded_12 : decode cX10_guarded 12 = .ok (.invokevirtual 124, 3) := by decide +kernel
theorem dX10_guarded_15 : decode cX10_guarded 15 = .ok (.ifCond .eq 17, 3) := by decide +kernel
theorem dX10_guarded_18 : decode cX10_guarded 18 = .ok (.iload_n 1, 1) := by decide +kernel
theorem dX10_guarded_19 : decode cX10_guarded 19 = .ok (.iconst 1, 1) := by decide +kernel
theorem dX10_guarded_20 : decode cX10_guarded 20 = .ok (.aload_n 0, 1) := by decide +kernel
theorem dX10_guarded_21 : decode cX10_guarded 21 = .ok (.getfield 7, 3) := by decide +kernel
theorem dX10_guarded_24 : decode cX10_guarded 24 = .ok (.bipush 56, 2) := by decide +kernel
theorem dX10_guarded_26 : decode cX10_guarded 26 = .ok (.iload_n 2, 1) := by decide +kernel
theorem dX10_guarded_27 : decode cX10_guarded 27 = .ok (.iadd, 1) := by decide +kernel
theorem dX10_guarded_28 : decode cX10_guarded 28 = .ok (.iaload, 1) := by decide +kernel
theorem dX10_guarded_29 : decode cX10_guarded 29 = .ok (.ishl, 1) := by decide +kernel
theorem dX10_guarded_30 : decode cX10_guarded 30 = .ok (.ior, 1) := by decide +kernel
theorem dX10_guarded_31 : decode cX10_guarded 31 = .ok (.istore_n 1, 1) := by decide +kernel
theorem dX10_guarded_32 : decode cX10_guarded 32 = .ok (.iinc 2 1, 3) := by decide +kernel
theorem dX10_guarded_35 : decode cX10_guarded 35 = .ok (.goto (-31), 3) := by decide +kernel
theorem dX10_guarded_38 : decode cX10_guarded 38 = .ok (.iload_n 1, 1) := by decide +kernel
theorem dX10_guarded_39 : decode cX10_guarded 39 = .ok (.ireturn, 1) := by decide +kernel
set_option maxRecDepth 20000 in
theorem ggX10_place_X10_in : GoodIn wsX10_place wsX10_in := goodIn_r _ [6] (by decide +kernel) (by decide +kernel)
set_option maxRecDepth 20000 in
theorem gX10_place_X10_in : GoodIn wsX10_place (va_wsS RX10 112 yX10_in wsX10_in) := goodIn_app (goodIn_of _ (by decide +kernel)) ggX10_place_X10_in
theorem dX10_place_0 : decode cX10_place 0 = .ok (.iload_n 1, 1) := by decide +kernel
theorem dX10_place_1 : decode cX10_place 1 = .ok (.iconst 0, 1) := by decide +kernel
theorem dX10_place_2 : decode cX10_place 2 = .ok (.bipush 15, 2) := by decide +kernel
theorem dX10_place_4 : decode cX10_place 4 = .ok (.invokestatic 112, 3) := by decide +kernel
theorem dX10_place_7 : decode cX10_place 7 = .ok (.ifCond .eq 24, 3) := by decide +kernel
theorem dX10_place_10 : decode cX10_place 10 = .ok (.iload_n 2, 1) := by decide +kernel
theorem dX10_place_11 : decode cX10_place 11 = .ok (.iconst 0, 1) := by decide +kernel
theorem dX10_place_12 : decode cX10_place 12 = .ok (.bipush 99, 2) := by decide +kernel
theorem dX10_place_14 : decode cX10_place 14 = .ok (.invokestatic 112, 3) := by decide +kernel
theorem dX10_place_17 : decode cX10_place 17 = .ok (.ifCond .eq 14, 3) := by decide +kernel
theorem dX10_place_20 : decode cX10_place 20 = .ok (.iload_n 3, 1) := by decide +kernel
theorem dX10_place_21 : decode cX10_place 21 = .ok (.iconst 0, 1) := by decide +kernel
theorem dX10_place_22 : decode cX10_place 22 = .ok (.sipush 999, 3) := by decide +kernel
theorem dX10_place_25 : decode cX10_place 25 = .ok (.invokestatic 112, 3) := by decide +kernel
theorem dX10_place_28 : decode cX10_place 28 = .ok (.ifCond .ne 5, 3) := by decide +kernel
theorem dX10_place_31 : decode cX10_place 31 = .ok (.iconst 0, 1) := by decide +kernel
theorem dX10_place_32 : decode cX10_place 32 = .ok (.ireturn, 1) := by decide +kernel
theorem dX10_place_33 : decode cX10_place 33 = .ok (.aload_n 0, 1) := by decide +kernel
theorem dX10_place_34 : decode cX10_place 34 = .ok (.aload_n 0, 1) := by decide +kernel
theorem dX10_place_35 : decode cX10_place 35 = .ok (.getfield 116, 3) := by decide +kernel
theorem dX10_place_38 : decode cX10_place 38 = .ok (.iconst 1, 1) := by decide +kernel
theorem dX10_place_39 : decode cX10_place 39 = .ok (.iload_n 1, 1) := by decide +kernel
theorem dX10_place_40 : decode cX10_place 40 = .ok (.ishl, 1) := by decide +kernel
theorem dX10_place_41 : decode cX10_place 41 = .ok (.ior, 1) := by decide +kernel
theorem dX10_place_42 : decode cX10_place 42 = .ok (.putfield 116, 3) := by decide +kernel
theorem dX10_place_45 : decode cX10_place 45 = .ok (.aload_n 0, 1) := by decide +kernel
theorem dX10_place_46 : decode cX10_place 46 = .ok (.getfield 7, 3) := by decide +kernel
theorem dX10_place_49 : decode cX10_place 49 = .ok (.iconst 0, 1) := by decide +kernel
theorem dX10_place_50 : decode cX10_place 50 = .ok (.iload_n 1, 1) := by decide +kernel
theorem dX10_place_51 : decode cX10_place 51 = .ok (.iadd, 1) := by decide +kernel
theorem dX10_place_52 : decode cX10_place 52 = .ok (.iload_n 2, 1) := by decide +kernel
theorem dX10_place_53 : decode cX10_place 53 = .ok (.iastore, 1) := by decide +kernel
theorem dX10_place_54 : decode cX10_place 54 = .ok (.aload_n 0, 1) := by decide +kernel
theorem dX10_place_55 : decode cX10_place 55 = .ok (.getfield 7, 3) := by decide +kernel
theorem dX10_place_58 : decode cX10_place 58 = .ok (.bipush 16, 2) := by decide +kernel
theorem dX10_place_60 : decode cX10_place 60 = .ok (.iload_n 1, 1) := by decide +kernel
theorem dX10_place_61 : decode cX10_place 61 = .ok (.iadd, 1) := by decide +kernel
theorem dX10_place_62 : decode cX10_place 62 = .ok (.iload_n 3, 1) := by decide +kernel
theorem dX10_place_63 : decode cX10_place 63 = .ok (.iastore, 1) := by decide +kernel
theorem dX10_place_64 : decode cX10_place 64 = .ok (.iconst 1, 1) := by decide +kernel
theorem dX10_place_65 : decode cX10_place 65 = .ok (.ireturn, 1) := by decide +kernel
set_option maxRecDepth 20000 in
theorem ggX10_constable_X10_in : GoodIn wsX10_constable wsX10_in := goodIn_r _ [5] (by decide +kernel) (by decide +kernel)
set_option maxRecDepth 20000 in
theorem gX10_constable_X10_in : GoodIn wsX10_constable (va_wsS RX10 112 yX10_in wsX10_in) := goodIn_app (goodIn_of _ (by decide +kernel)) ggX10_constable_X10_in
set_option maxRecDepth 20000 in
theorem ggX10_constable_X10_isTold : GoodIn wsX10_constable wsX10_isTold := goodIn_r _ [9, 10, 2, 3, 4, 5, 11, 12, 13, 14, 15, 16, 17, 18, 19, 20, 21, 22, 23, 24, 25, 26, 27, 28, 29, 30, 31, 32, 33, 34, 35, 36, 37, 38, 39, 40, 41, 42, 43, 44, 45, 46, 47, 48, 49, 50, 51, 52, 53, 54, 55, 56, 57, 58, 59, 60, 61, 62, 63, 64, 65] (by decide +kernel) (by decide +kernel)
set_option maxRecDepth 20000 in
theorem gX10_constable_X10_isTold : GoodIn wsX10_constable (wsV RX10 128 RX10 yX10_isTold wsX10_isTold) := goodIn_app (goodIn_of _ (by decide +kernel)) ggX10_constable_X10_isTold
theorem dX10_constable_0 : decode cX10_constable 0 = .ok (.iload_n 1, 1) := by decide +kernel
theorem dX10_constable_1 : decode cX10_constable 1 = .ok (.iconst 0, 1) := by decide +kernel
theorem dX10_constable_2 : decode cX10_constable 2 = .ok (.bipush 7, 2) := by decide +kernel
theorem dX10_constable_4 : decode cX10_constable 4 = .ok (.invokestatic 112, 3) := by decide +kernel
theorem dX10_constable_7 : decode cX10_constable 7 = .ok (.ifCond .eq 11, 3) := by decide +kernel
theorem dX10_constable_10 : decode cX10_constable 10 = .ok (.aload_n 0, 1) := by decide +kernel
theorem dX10_constable_11 : decode cX10_constable 11 = .ok (.iload_n 2, 1) := by decide +kernel
theorem dX10_constable_12 : decode cX10_constable 12 = .ok (.invokevirtual 128, 3) := by decide +kernel
theorem dX10_constable_15 : decode cX10_constable 15 = .ok (.ifCond .ne 5, 3) := by decide +kernel
theorem dX10_constable_18 : decode cX10_constable 18 = .ok (.iconst 0, 1) := by decide +kernel
theorem dX10_constable_19 : decode cX10_constable 19 = .ok (.ireturn, 1) := by decide +kernel
theorem dX10_constable_20 : decode cX10_constable 20 = .ok (.aload_n 0, 1) := by decide +kernel
theorem dX10_constable_21 : decode cX10_constable 21 = .ok (.getfield 7, 3) := by decide +kernel
theorem dX10_constable_24 : decode cX10_constable 24 = .ok (.bipush 48, 2) := by decide +kernel
theorem dX10_constable_26 : decode cX10_constable 26 = .ok (.iload_n 1, 1) := by decide +kernel
theorem dX10_constable_27 : decode cX10_constable 27 = .ok (.iadd, 1) := by decide +kernel
theorem dX10_constable_28 : decode cX10_constable 28 = .ok (.iconst 1, 1) := by decide +kernel
theorem dX10_constable_29 : decode cX10_constable 29 = .ok (.iastore, 1) := by decide +kernel
theorem dX10_constable_30 : decode cX10_constable 30 = .ok (.aload_n 0, 1) := by decide +kernel
theorem dX10_constable_31 : decode cX10_constable 31 = .ok (.getfield 7, 3) := by decide +kernel
theorem dX10_constable_34 : decode cX10_constable 34 = .ok (.bipush 56, 2) := by decide +kernel
theorem dX10_constable_36 : decode cX10_constable 36 = .ok (.iload_n 1, 1) := by decide +kernel
theorem dX10_constable_37 : decode cX10_constable 37 = .ok (.iadd, 1) := by decide +kernel
theorem dX10_constable_38 : decode cX10_constable 38 = .ok (.iload_n 2, 1) := by decide +kernel
theorem dX10_constable_39 : decode cX10_constable 39 = .ok (.iastore, 1) := by decide +kernel
theorem dX10_constable_40 : decode cX10_constable 40 = .ok (.aload_n 0, 1) := by decide +kernel
