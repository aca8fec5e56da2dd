theorem dX3_grant_21 : decode cX3_grant 21 = .ok (.getfield 18, 3) := by decide +kernel
theorem dX3_grant_24 : decode cX3_grant 24 = .ok (.iload_n 3, 1) := by decide +kernel
theorem dX3_grant_25 : decode cX3_grant 25 = .ok (.invokestatic 73, 3) := by decide +kernel
theorem dX3_grant_28 : decode cX3_grant 28 = .ok (.istore 5, 2) := by decide +kernel
theorem dX3_grant_30 : decode cX3_grant 30 = .ok (.aload_n 1, 1) := by decide +kernel
theorem dX3_grant_31 : decode cX3_grant 31 = .ok (.getfield 77, 3) := by decide +kernel
theorem dX3_grant_34 : decode cX3_grant 34 = .ok (.iload 4, 2) := by decide +kernel
theorem dX3_grant_36 : decode cX3_grant 36 = .ok (.invokestatic 73, 3) := by decide +kernel
theorem dX3_grant_39 : decode cX3_grant 39 = .ok (.istore 6, 2) := by decide +kernel
theorem dX3_grant_41 : decode cX3_grant 41 = .ok (.aload_n 0, 1) := by decide +kernel
theorem dX3_grant_42 : decode cX3_grant 42 = .ok (.getfield 15, 3) := by decide +kernel
theorem dX3_grant_45 : decode cX3_grant 45 = .ok (.iload_n 3, 1) := by decide +kernel
theorem dX3_grant_46 : decode cX3_grant 46 = .ok (.invokestatic 73, 3) := by decide +kernel
theorem dX3_grant_49 : decode cX3_grant 49 = .ok (.lookupswitch 114 #[(38, 103), (43, 43), (45, 66), (61, 89)], 43) := by decide +kernel
theorem dX3_grant_92 : decode cX3_grant 92 = .ok (.aload_n 1, 1) := by decide +kernel
theorem dX3_grant_93 : decode cX3_grant 93 = .ok (.getfield 77, 3) := by decide +kernel
theorem dX3_grant_96 : decode cX3_grant 96 = .ok (.iload 4, 2) := by decide +kernel
theorem dX3_grant_98 : decode cX3_grant 98 = .ok (.iload 6, 2) := by decide +kernel
theorem dX3_grant_100 : decode cX3_grant 100 = .ok (.iload 5, 2) := by decide +kernel
theorem dX3_grant_102 : decode cX3_grant 102 = .ok (.iadd, 1) := by decide +kernel
theorem dX3_grant_103 : decode cX3_grant 103 = .ok (.iconst 0, 1) := by decide +kernel
theorem dX3_grant_104 : decode cX3_grant 104 = .ok (.bipush 99, 2) := by decide +kernel
theorem dX3_grant_106 : decode cX3_grant 106 = .ok (.invokestatic 82, 3) := by decide +kernel
theorem dX3_grant_109 : decode cX3_grant 109 = .ok (.invokestatic 69, 3) := by decide +kernel
theorem dX3_grant_112 : decode cX3_grant 112 = .ok (.goto 59, 3) := by decide +kernel
theorem dX3_grant_115 : decode cX3_grant 115 = .ok (.aload_n 1, 1) := by decide +kernel
theorem dX3_grant_116 : decode cX3_grant 116 = .ok (.getfield 77, 3) := by decide +kernel
theorem dX3_grant_119 : decode cX3_grant 119 = .ok (.iload 4, 2) := by decide +kernel
theorem dX3_grant_121 : decode cX3_grant 121 = .ok (.iload 6, 2) := by decide +kernel
theorem dX3_grant_123 : decode cX3_grant 123 = .ok (.iload 5, 2) := by decide +kernel
theorem dX3_grant_125 : decode cX3_grant 125 = .ok (.isub, 1) := by decide +kernel
theorem dX3_grant_126 : decode cX3_grant 126 = .ok (.iconst 0, 1) := by decide +kernel
theorem dX3_grant_127 : decode cX3_grant 127 = .ok (.bipush 99, 2) := by decide +kernel
theorem dX3_grant_129 : decode cX3_grant 129 = .ok (.invokestatic 82, 3) := by decide +kernel
theorem dX3_grant_132 : decode cX3_grant 132 = .ok (.invokestatic 69, 3) := by decide +kernel
theorem dX3_grant_135 : decode cX3_grant 135 = .ok (.goto 36, 3) := by decide +kernel
theorem dX3_grant_138 : decode cX3_grant 138 = .ok (.aload_n 1, 1) := by decide +kernel
theorem dX3_grant_139 : decode cX3_grant 139 = .ok (.getfield 86, 3) := by decide +kernel
theorem dX3_grant_142 : decode cX3_grant 142 = .ok (.iload 4, 2) := by decide +kernel
theorem dX3_grant_144 : decode cX3_grant 144 = .ok (.iload 5, 2) := by decide +kernel
theorem dX3_grant_146 : decode cX3_grant 146 = .ok (.invokestatic 69, 3) := by decide +kernel
theorem dX3_grant_149 : decode cX3_grant 149 = .ok (.goto 22, 3) := by decide +kernel
theorem dX3_grant_152 : decode cX3_grant 152 = .ok (.aload_n 2, 1) := by decide +kernel
theorem dX3_grant_153 : decode cX3_grant 153 = .ok (.iload 4, 2) := by decide +kernel
theorem dX3_grant_155 : decode cX3_grant 155 = .ok (.iload 5, 2) := by decide +kernel
theorem dX3_grant_157 : decode cX3_grant 157 = .ok (.invokevirtual 89, 3) := by decide +kernel
theorem dX3_grant_160 : decode cX3_grant 160 = .ok (.goto 11, 3) := by decide +kernel
theorem dX3_grant_163 : decode cX3_grant 163 = .ok (.aload_n 2, 1) := by decide +kernel
theorem dX3_grant_164 : decode cX3_grant 164 = .ok (.iload 4, 2) := by decide +kernel
theorem dX3_grant_166 : decode cX3_grant 166 = .ok (.iload 5, 2) := by decide +kernel
theorem dX3_grant_168 : decode cX3_grant 168 = .ok (.invokevirtual 93, 3) := by decide +kernel
theorem dX3_grant_171 : decode cX3_grant 171 = .ok (.iinc 3 1, 3) := by decide +kernel
theorem dX3_grant_174 : decode cX3_grant 174 = .ok (.goto (-172), 3) := by decide +kernel
theorem dX3_grant_177 : decode cX3_grant 177 = .ok (.return_, 1) := by decide +kernel
theorem dX4_init_0 : decode cX4_init 0 = .ok (.aload_n 0, 1) := by decide +kernel
theorem dX4_init_1 : decode cX4_init 1 = .ok (.invokespecial 3, 3) := by decide +kernel
theorem dX4_init_4 : decode cX4_init 4 = .ok (.aload_n 0, 1) := by decide +kernel
theorem dX4_init_5 : decode cX4_init 5 = .ok (.bipush 16, 2) := by decide +kernel
theorem dX4_init_7 : decode cX4_init 7 = .ok (.newarray .int, 2) := by decide +kernel
theorem dX4_init_9 : decode cX4_init 9 = .ok (.putfield 9, 3) := by decide +kernel
theorem dX4_init_12 : decode cX4_init 12 = .ok (.return_, 1) := by decide +kernel
set_option maxRecDepth 20000 in
theorem ggX4_fewest_X4_canFill : GoodIn wsX4_fewest wsX4_canFill := goodIn_r _ [7, 8, 9, 6, 10, 11, 12, 13, 14, 15, 16, 17, 18, 19, 20, 21, 22, 23, 24, 25, 26, 4, 5] (by decide +kernel) (by decide +kernel)
set_option maxRecDepth 20000 in
theorem gX4_fewest_X4_canFill : GoodIn wsX4_fewest (va_wsS RX4 24 yX4_canFill wsX4_canFill) := goodIn_app (goodIn_of _ (by decide +kernel)) ggX4_fewest_X4_canFill
theorem dX4_fewest_0 : decode cX4_fewest 0 = .ok (.iconst 0, 1) := by decide +kernel
theorem dX4_fewest_1 : decode cX4_fewest 1 = .ok (.istore_n 2, 1) := by decide +kernel
theorem dX4_fewest_2 : decode cX4_fewest 2 = .ok (.iload_n 2, 1) := by decide +kernel
theorem dX4_fewest_3 : decode cX4_fewest 3 = .ok (.aload_n 0, 1) := by decide +kernel
theorem dX4_fewest_4 : decode cX4_fewest 4 = .ok (.getfield 9, 3) := by decide +kernel
theorem dX4_fewest_7 : decode cX4_fewest 7 = .ok (.arraylength, 1) := by decide +kernel
theorem dX4_fewest_8 : decode cX4_fewest 8 = .ok (.if_icmp .ge 16, 3) := by decide +kernel
theorem dX4_fewest_11 : decode cX4_fewest 11 = .ok (.aload_n 0, 1) := by decide +kernel
theorem dX4_fewest_12 : decode cX4_fewest 12 = .ok (.getfield 9, 3) := by decide +kernel
theorem dX4_fewest_15 : decode cX4_fewest 15 = .ok (.iload_n 2, 1) := by decide +kernel
theorem dX4_fewest_16 : decode cX4_fewest 16 = .ok (.iconst 0, 1) := by decide +kernel
theorem dX4_fewest_17 : decode cX4_fewest 17 = .ok (.iastore, 1) := by decide +kernel
theorem dX4_fewest_18 : decode cX4_fewest 18 = .ok (.iinc 2 1, 3) := by decide +kernel
theorem dX4_fewest_21 : decode cX4_fewest 21 = .ok (.goto (-19), 3) := by decide +kernel
theorem dX4_fewest_24 : decode cX4_fewest 24 = .ok (.iconst 0, 1) := by decide +kernel
theorem dX4_fewest_25 : decode cX4_fewest 25 = .ok (.istore_n 2, 1) := by decide +kernel
theorem dX4_fewest_26 : decode cX4_fewest 26 = .ok (.iload_n 2, 1) := by decide +kernel
theorem dX4_fewest_27 : decode cX4_fewest 27 = .ok (.bipush 16, 2) := by decide +kernel
theorem dX4_fewest_29 : decode cX4_fewest 29 = .ok (.if_icmp .ge 28, 3) := by decide +kernel
theorem dX4_fewest_32 : decode cX4_fewest 32 = .ok (.aload_n 0, 1) := by decide +kernel
theorem dX4_fewest_33 : decode cX4_fewest 33 = .ok (.getfield 9, 3) := by decide +kernel
theorem dX4_fewest_36 : decode cX4_fewest 36 = .ok (.aload_n 1, 1) := by decide +kernel
theorem dX4_fewest_37 : decode cX4_fewest 37 = .ok (.getfield 15, 3) := by decide +kernel
theorem dX4_fewest_40 : decode cX4_fewest 40 = .ok (.aload_n 1, 1) := by decide +kernel
theorem dX4_fewest_41 : decode cX4_fewest 41 = .ok (.getfield 20, 3) := by decide +kernel
theorem dX4_fewest_44 : decode cX4_fewest 44 = .ok (.iload_n 2, 1) := by decide +kernel
theorem dX4_fewest_45 : decode cX4_fewest 45 = .ok (.invokestatic 24, 3) := by decide +kernel
theorem dX4_fewest_48 : decode cX4_fewest 48 = .ok (.ifCond .ne 9, 3) := by decide +kernel
theorem dX4_fewest_51 : decode cX4_fewest 51 = .ok (.iinc 2 1, 3) := by decide +kernel
theorem dX4_fewest_54 : decode cX4_fewest 54 = .ok (.goto (-28), 3) := by decide +kernel
theorem dX4_fewest_57 : decode cX4_fewest 57 = .ok (.iload_n 2, 1) := by decide +kernel
theorem dX4_fewest_58 : decode cX4_fewest 58 = .ok (.ireturn, 1) := by decide +kernel
set_option maxRecDepth 20000 in
theorem ggX4_watchOf_X9_has : GoodIn wsX4_watchOf wsX9_has := goodIn_r _ [6, 7, 8, 5, 9] (by decide +kernel) (by decide +kernel)
set_option maxRecDepth 20000 in
theorem gX4_watchOf_X9_has_n28 : GoodIn wsX4_watchOf (wsX9_has) := ggX4_watchOf_X9_has
set_option maxRecDepth 20000 in
theorem ggX4_watchOf_X4_leastWatch : GoodIn wsX4_watchOf wsX4_leastWatch := goodIn_r _ [14, 3, 15, 5, 16, 17, 18, 19, 20, 13, 21, 22, 23, 24, 25, 26, 27, 4, 6, 7, 8, 9, 28, 29, 30, 35] (by decide +kernel) (by decide +kernel)
set_option maxRecDepth 20000 in
theorem gX4_watchOf_X4_leastWatch : GoodIn wsX4_watchOf (wsV RX4 32 RX4 yX4_leastWatch wsX4_leastWatch) := goodIn_app (goodIn_of _ (by decide +kernel)) ggX4_watchOf_X4_leastWatch
set_option maxRecDepth 20000 in
theorem ggX4_watchOf_X9_at : GoodIn wsX4_watchOf wsX9_at := goodIn_r _ [16] (by decide +kernel) (by decide +kernel)
set_option maxRecDepth 20000 in
theorem gX4_watchOf_X9_at_n36 : GoodIn wsX4_watchOf (wsX9_at) := ggX4_watchOf_X9_at
set_option maxRecDepth 20000 in
theorem ggX4_watchOf_X9_put : GoodIn wsX4_watchOf wsX9_put := goodIn_r _ [18] (by decide +kernel) (by decide +kernel)
set_option maxRecDepth 20000 in
theorem gX4_watchOf_X9_put_n40 : GoodIn wsX4_watchOf (wsX9_put) := ggX4_watchOf_X9_put
theorem dX4_watchOf_0 : decode cX4_watchOf 0 = .ok (.aload_n 3, 1) := by decide +kernel
theorem dX4_watchOf_1 : decode cX4_watchOf 1 = .ok (.getfield 20, 3) := by decide +kernel
theorem dX4_watchOf_4 : decode cX4_watchOf 4 = .ok (.istore 4, 2) := by decide +kernel
theorem dX4_watchOf_6 : decode cX4_watchOf 6 = .ok (.iconst (-1), 1) := by decide +kernel
theorem dX4_watchOf_7 : decode cX4_watchOf 7 = .ok (.istore 5, 2) := by decide +kernel
theorem dX4_watchOf_9 : decode cX4_watchOf 9 = .ok (.iconst 0, 1) := by decide +kernel
theorem dX4_watchOf_10 : decode cX4_watchOf 10 = .ok (.istore 6, 2) := by decide +kernel
theorem dX4_watchOf_12 : decode cX4_watchOf 12 = .ok (.iload 6, 2) := by decide +kernel
theorem dX4_watchOf_14 : decode cX4_watchOf 14 = .ok (.iload_n 1, 1) := by decide +kernel
theorem dX4_watchOf_15 : decode cX4_watchOf 15 = .ok (.if_icmp .gt 75, 3) := by decide +kernel
theorem dX4_watchOf_18 : decode cX4_watchOf 18 = .ok (.iload 6, 2) := by decide +kernel
theorem dX4_watchOf_20 : decode cX4_watchOf 20 = .ok (.bipush 16, 2) := by decide +kernel
theorem dX4_watchOf_22 : decode cX4_watchOf 22 = .ok (.if_icmp .ge 68, 3) := by decide +kernel
theorem dX4_watchOf_25 : decode cX4_watchOf 25 = .ok (.iload 4, 2) := by decide +kernel
theorem dX4_watchOf_27 : decode cX4_watchOf 27 = .ok (.iload 6, 2) := by decide +kernel
theorem dX4_watchOf_29 : decode cX4_watchOf 29 = .ok (.invokestatic 28, 3) := by decide +kernel
theorem dX4_watchOf_32 : decode cX4_watchOf 32 = .ok (.ifCond .eq 52, 3) := by decide +kernel
theorem dX4_watchOf_35 : decode cX4_watchOf 35 = .ok (.iload 4, 2) := by decide +kernel
theorem dX4_watchOf_37 : decode cX4_watchOf 37 = .ok (.iconst 1, 1) := by decide +kernel
theorem dX4_watchOf_38 : decode cX4_watchOf 38 = .ok (.iload 6, 2) := by decide +kernel
theorem dX4_watchOf_40 : decode cX4_watchOf 40 = .ok (.ishl, 1) := by decide +kernel
theorem dX4_watchOf_41 : decode cX4_watchOf 41 = .ok (.iconst (-1), 1) := by decide +kernel
theorem dX4_watchOf_42 : decode cX4_watchOf 42 = .ok (.ixor, 1) := by decide +kernel
theorem dX4_watchOf_43 : decode cX4_watchOf 43 = .ok (.iand, 1) := by decide +kernel
theorem dX4_watchOf_44 : decode cX4_watchOf 44 = .ok (.istore 4, 2) := by decide +kernel
theorem dX4_watchOf_46 : decode cX4_watchOf 46 = .ok (.aload_n 0, 1) := by decide +kernel
theorem dX4_watchOf_47 : decode cX4_watchOf 47 = .ok (.iload 6, 2) := by decide +kernel
theorem dX4_watchOf_49 : decode cX4_watchOf 49 = .ok (.iload 4, 2) := by decide +kernel
theorem dX4_watchOf_51 : decode cX4_watchOf 51 = .ok (.iload_n 2, 1) := by decide +kernel
theorem dX4_watchOf_52 : decode cX4_watchOf 52 = .ok (.aload_n 3, 1) := by decide +kernel
theorem dX4_watchOf_53 : decode cX4_watchOf 53 = .ok (.getfield 15, 3) := by decide +kernel
theorem dX4_watchOf_56 : decode cX4_watchOf 56 = .ok (.invokevirtual 32, 3) := by decide +kernel
theorem dX4_watchOf_59 : decode cX4_watchOf 59 = .ok (.istore 5, 2) := by decide +kernel
theorem dX4_watchOf_61 : decode cX4_watchOf 61 = .ok (.aload_n 0, 1) := by decide +kernel
theorem dX4_watchOf_62 : decode cX4_watchOf 62 = .ok (.getfield 9, 3) := by decide +kernel
theorem dX4_watchOf_65 : decode cX4_watchOf 65 = .ok (.iload 5, 2) := by decide +kernel
theorem dX4_watchOf_67 : decode cX4_watchOf 67 = .ok (.aload_n 0, 1) := by decide +kernel
theorem dX4_watchOf_68 : decode cX4_watchOf 68 = .ok (.getfield 9, 3) := by decide +kernel
theorem dX4_watchOf_71 : decode cX4_watchOf 71 = .ok (.iload 5, 2) := by decide +kernel
theorem dX4_watchOf_73 : decode cX4_watchOf 73 = .ok (.invokestatic 36, 3) := by decide +kernel
theorem dX4_watchOf_76 : decode cX4_watchOf 76 = .ok (.iconst 1, 1) := by decide +kernel
theorem dX4_watchOf_77 : decode cX4_watchOf 77 = .ok (.iload 6, 2) := by decide +kernel
theorem dX4_watchOf_79 : decode cX4_watchOf 79 = .ok (.ishl, 1) := by decide +kernel
theorem dX4_watchOf_80 : decode cX4_watchOf 80 = .ok (.ior, 1) := by decide +kernel
theorem dX4_watchOf_81 : decode cX4_watchOf 81 = .ok (.invokestatic 40, 3) := by decide +kernel
theorem dX4_watchOf_84 : decode cX4_watchOf 84 = .ok (.iinc 6 1, 3) := by decide +kernel
theorem dX4_watchOf_87 : decode cX4_watchOf 87 = .ok (.goto (-75), 3) := by decide +kernel
theorem dX4_watchOf_90 : decode cX4_watchOf 90 = .ok (.iload 5, 2) := by decide +kernel
theorem dX4_watchOf_92 : decode cX4_watchOf 92 = .ok (.ireturn, 1) := by decide +kernel
set_option maxRecDepth 20000 in
theorem ggX4_leastWatch_X9_at : GoodIn wsX4_leastWatch wsX9_at := goodIn_r _ [4] (by decide +kernel) (by decide +kernel)
set_option maxRecDepth 20000 in
theorem gX4_leastWatch_X9_at_n36 : GoodIn wsX4_leastWatch (wsX9_at) := ggX4_leastWatch_X9_at
set_option maxRecDepth 20000 in
theorem ggX4_leastWatch_X9_put : GoodIn wsX4_leastWatch wsX9_put := goodIn_r _ [6] (by decide +kernel) (by decide +kernel)
set_option maxRecDepth 20000 in
theorem gX4_leastWatch_X9_put_n40 : GoodIn wsX4_leastWatch (wsX9_put) := ggX4_leastWatch_X9_put
set_option maxRecDepth 20000 in
theorem ggX4_leastWatch_X4_canFill : GoodIn wsX4_leastWatch wsX4_canFill := goodIn_r _ [10, 11, 12, 9, 13, 14, 3, 15, 16, 17, 18, 19, 20, 21, 2, 4, 22, 23, 24, 5, 6, 7, 8] (by decide +kernel) (by decide +kernel)
set_option maxRecDepth 20000 in
theorem gX4_leastWatch_X4_canFill : GoodIn wsX4_leastWatch (va_wsS RX4 24 yX4_canFill wsX4_canFill) := goodIn_app (goodIn_of _ (by decide +kernel)) ggX4_leastWatch_X4_canFill
theorem dX4_leastWatch_0 : decode cX4_leastWatch 0 = .ok (.iconst 0, 1) := by decide +kernel
theorem dX4_leastWatch_1 : decode cX4_leastWatch 1 = .ok (.istore 5, 2) := by decide +kernel
theorem dX4_leastWatch_3 : decode cX4_leastWatch 3 = .ok (.iload 5, 2) := by decide +kernel
theorem dX4_leastWatch_5 : decode cX4_leastWatch 5 = .ok (.iload_n 3, 1) := by decide +kernel
theorem dX4_leastWatch_6 : decode cX4_leastWatch 6 = .ok (.if_icmp .ge 79, 3) := by decide +kernel
theorem dX4_leastWatch_9 : decode cX4_leastWatch 9 = .ok (.aload_n 0, 1) := by decide +kernel
theorem dX4_leastWatch_10 : decode cX4_leastWatch 10 = .ok (.getfield 9, 3) := by decide +kernel
theorem dX4_leastWatch_13 : decode cX4_leastWatch 13 = .ok (.iload 5, 2) := by decide +kernel
theorem dX4_leastWatch_15 : decode cX4_leastWatch 15 = .ok (.invokestatic 36, 3) := by decide +kernel
theorem dX4_leastWatch_18 : decode cX4_leastWatch 18 = .ok (.istore 6, 2) := by decide +kernel
theorem dX4_leastWatch_20 : decode cX4_leastWatch 20 = .ok (.iload 6, 2) := by decide +kernel
theorem dX4_leastWatch_22 : decode cX4_leastWatch 22 = .ok (.aload 4, 2) := by decide +kernel
theorem dX4_leastWatch_24 : decode cX4_leastWatch 24 = .ok (.iload_n 1, 1) := by decide +kernel
theorem dX4_leastWatch_25 : decode cX4_leastWatch 25 = .ok (.invokestatic 36, 3) := by decide +kernel
theorem dX4_leastWatch_28 : decode cX4_leastWatch 28 = .ok (.iand, 1) := by decide +kernel
theorem dX4_leastWatch_29 : decode cX4_leastWatch 29 = .ok (.ifCond .ne 50, 3) := by decide +kernel
theorem dX4_leastWatch_32 : decode cX4_leastWatch 32 = .ok (.aload_n 0, 1) := by decide +kernel
theorem dX4_leastWatch_33 : decode cX4_leastWatch 33 = .ok (.getfield 9, 3) := by decide +kernel
theorem dX4_leastWatch_36 : decode cX4_leastWatch 36 = .ok (.iload 5, 2) := by decide +kernel
theorem dX4_leastWatch_38 : decode cX4_leastWatch 38 = .ok (.iload 6, 2) := by decide +kernel
theorem dX4_leastWatch_40 : decode cX4_leastWatch 40 = .ok (.iconst 1, 1) := by decide +kernel
theorem dX4_leastWatch_41 : decode cX4_leastWatch 41 = .ok (.iload_n 1, 1) := by decide +kernel
theorem dX4_leastWatch_42 : decode cX4_leastWatch 42 = .ok (.ishl, 1) := by decide +kernel
theorem dX4_leastWatch_43 : decode cX4_leastWatch 43 = .ok (.ior, 1) := by decide +kernel
theorem dX4_leastWatch_44 : decode cX4_leastWatch 44 = .ok (.invokestatic 40, 3) := by decide +kernel
theorem dX4_leastWatch_47 : decode cX4_leastWatch 47 = .ok (.aload_n 0, 1) := by decide +kernel
theorem dX4_leastWatch_48 : decode cX4_leastWatch 48 = .ok (.getfield 9, 3) := by decide +kernel
theorem dX4_leastWatch_51 : decode cX4_leastWatch 51 = .ok (.aload 4, 2) := by decide +kernel
theorem dX4_leastWatch_53 : decode cX4_leastWatch 53 = .ok (.iload_n 2, 1) := by decide +kernel
theorem dX4_leastWatch_54 : decode cX4_leastWatch 54 = .ok (.iload_n 3, 1) := by decide +kernel
theorem dX4_leastWatch_55 : decode cX4_leastWatch 55 = .ok (.invokestatic 24, 3) := by decide +kernel
theorem dX4_leastWatch_58 : decode cX4_leastWatch 58 = .ok (.istore 7, 2) := by decide +kernel
theorem dX4_leastWatch_60 : decode cX4_leastWatch 60 = .ok (.aload_n 0, 1) := by decide +kernel
theorem dX4_leastWatch_61 : decode cX4_leastWatch 61 = .ok (.getfield 9, 3) := by decide +kernel
theorem dX4_leastWatch_64 : decode cX4_leastWatch 64 = .ok (.iload 5, 2) := by decide +kernel
theorem dX4_leastWatch_66 : decode cX4_leastWatch 66 = .ok (.iload 6, 2) := by decide +kernel
theorem dX4_leastWatch_68 : decode cX4_leastWatch 68 = .ok (.invokestatic 40, 3) := by decide +kernel
theorem dX4_leastWatch_71 : decode cX4_leastWatch 71 = .ok (.iload 7, 2) := by decide +kernel
theorem dX4_leastWatch_73 : decode cX4_leastWatch 73 = .ok (.ifCond .eq 6, 3) := by decide +kernel
theorem dX4_leastWatch_76 : decode cX4_leastWatch 76 = .ok (.iload 5, 2) := by decide +kernel
theorem dX4_leastWatch_78 : decode cX4_leastWatch 78 = .ok (.ireturn, 1) := by decide +kernel
theorem dX4_leastWatch_79 : decode cX4_leastWatch 79 = .ok (.iinc 5 1, 3) := by decide +kernel
theorem dX4_leastWatch_82 : decode cX4_leastWatch 82 = .ok (.goto (-79), 3) := by decide +kernel
theorem dX4_leastWatch_85 : decode cX4_leastWatch 85 = .ok (.iconst (-1), 1) := by decide +kernel
theorem dX4_leastWatch_86 : decode cX4_leastWatch 86 = .ok (.ireturn, 1) := by decide +kernel
set_option maxRecDepth 20000 in
theorem ggX4_canFill_X4_tightest : GoodIn wsX4_canFill wsX4_tightest := goodIn_r _ [4, 5, 6, 7, 8, 9, 10, 11, 12, 13, 14, 15, 16, 17, 3, 18] (by decide +kernel) (by decide +kernel)
set_option maxRecDepth 20000 in
theorem gX4_canFill_X4_tightest : GoodIn wsX4_canFill (va_wsS RX4 44 yX4_tightest wsX4_tightest) := goodIn_app (goodIn_of _ (by decide +kernel)) ggX4_canFill_X4_tightest
set_option maxRecDepth 20000 in
theorem ggX4_canFill_X9_at : GoodIn wsX4_canFill wsX9_at := goodIn_r _ [15] (by decide +kernel) (by decide +kernel)
set_option maxRecDepth 20000 in
theorem gX4_canFill_X9_at_n36 : GoodIn wsX4_canFill (wsX9_at) := ggX4_canFill_X9_at
set_option maxRecDepth 20000 in
theorem ggX4_canFill_X9_put : GoodIn wsX4_canFill wsX9_put := goodIn_r _ [20] (by decide +kernel) (by decide +kernel)
set_option maxRecDepth 20000 in
theorem gX4_canFill_X9_put_n40 : GoodIn wsX4_canFill (wsX9_put) := ggX4_canFill_X9_put
set_option maxRecDepth 20000 in
theorem ggX4_canFill_X4_canFill : GoodIn wsX4_canFill wsX4_canFill := goodIn_r _ [0, 1, 2, 3, 4, 5, 6, 7, 8, 9, 10, 11, 12, 13, 14, 15, 16, 17, 18, 19, 20, 21, 22] (by decide +kernel) (by decide +kernel)
set_option maxRecDepth 20000 in
theorem gX4_canFill_X4_canFill : GoodIn wsX4_canFill (va_wsS RX4 24 yX4_canFill wsX4_canFill) := goodIn_app (goodIn_of _ (by decide +kernel)) ggX4_canFill_X4_canFill
theorem dX4_canFill_0 : decode cX4_canFill 0 = .ok (.iload_n 2, 1) := by decide +kernel
theorem dX4_canFill_1 : decode cX4_canFill 1 = .ok (.ifCond .ne 5, 3) := by decide +kernel
theorem dX4_canFill_4 : decode cX4_canFill 4 = .ok (.iconst 1, 1) := by decide +kernel
theorem dX4_canFill_5 : decode cX4_canFill 5 = .ok (.ireturn, 1) := by decide +kernel
theorem dX4_canFill_6 : decode cX4_canFill 6 = .ok (.aload_n 0, 1) := by decide +kernel
theorem dX4_canFill_7 : decode cX4_canFill 7 = .ok (.aload_n 1, 1) := by decide +kernel
theorem dX4_canFill_8 : decode cX4_canFill 8 = .ok (.iload_n 2, 1) := by decide +kernel
theorem dX4_canFill_9 : decode cX4_canFill 9 = .ok (.iload_n 3, 1) := by decide +kernel
theorem dX4_canFill_10 : decode cX4_canFill 10 = .ok (.invokestatic 44, 3) := by decide +kernel
theorem dX4_canFill_13 : decode cX4_canFill 13 = .ok (.istore 4, 2) := by decide +kernel
theorem dX4_canFill_15 : decode cX4_canFill 15 = .ok (.iconst 0, 1) := by decide +kernel
theorem dX4_canFill_16 : decode cX4_canFill 16 = .ok (.istore 5, 2) := by decide +kernel
theorem dX4_canFill_18 : decode cX4_canFill 18 = .ok (.iload 5, 2) := by decide +kernel
theorem dX4_canFill_20 : decode cX4_canFill 20 = .ok (.iload_n 3, 1) := by decide +kernel
theorem dX4_canFill_21 : decode cX4_canFill 21 = .ok (.if_icmp .ge 79, 3) := by decide +kernel
theorem dX4_canFill_24 : decode cX4_canFill 24 = .ok (.aload_n 0, 1) := by decide +kernel
theorem dX4_canFill_25 : decode cX4_canFill 25 = .ok (.iload 5, 2) := by decide +kernel
theorem dX4_canFill_27 : decode cX4_canFill 27 = .ok (.invokestatic 36, 3) := by decide +kernel
theorem dX4_canFill_30 : decode cX4_canFill 30 = .ok (.istore 6, 2) := by decide +kernel
theorem dX4_canFill_32 : decode cX4_canFill 32 = .ok (.iload 6, 2) := by decide +kernel
theorem dX4_canFill_34 : decode cX4_canFill 34 = .ok (.aload_n 1, 1) := by decide +kernel
theorem dX4_canFill_35 : decode cX4_canFill 35 = .ok (.iload 4, 2) := by decide +kernel
theorem dX4_canFill_37 : decode cX4_canFill 37 = .ok (.invokestatic 36, 3) := by decide +kernel
theorem dX4_canFill_40 : decode cX4_canFill 40 = .ok (.iand, 1) := by decide +kernel
theorem dX4_canFill_41 : decode cX4_canFill 41 = .ok (.ifCond .ne 53, 3) := by decide +kernel
theorem dX4_canFill_44 : decode cX4_canFill 44 = .ok (.aload_n 0, 1) := by decide +kernel
theorem dX4_canFill_45 : decode cX4_canFill 45 = .ok (.iload 5, 2) := by decide +kernel
theorem dX4_canFill_47 : decode cX4_canFill 47 = .ok (.iload 6, 2) := by decide +kernel
theorem dX4_canFill_49 : decode cX4_canFill 49 = .ok (.iconst 1, 1) := by decide +kernel
theorem dX4_canFill_50 : decode cX4_canFill 50 = .ok (.iload 4, 2) := by decide +kernel
theorem dX4_canFill_52 : decode cX4_canFill 52 = .ok (.ishl, 1) := by decide +kernel
theorem dX4_canFill_53 : decode cX4_canFill 53 = .ok (.ior, 1) := by decide +kernel
theorem dX4_canFill_54 : decode cX4_canFill 54 = .ok (.invokestatic 40, 3) := by decide +kernel
theorem dX4_canFill_57 : decode cX4_canFill 57 = .ok (.aload_n 0, 1) := by decide +kernel
theorem dX4_canFill_58 : decode cX4_canFill 58 = .ok (.aload_n 1, 1) := by decide +kernel
theorem dX4_canFill_59 : decode cX4_canFill 59 = .ok (.iload_n 2, 1) := by decide +kernel
theorem dX4_canFill_60 : decode cX4_canFill 60 = .ok (.iconst 1, 1) := by decide +kernel
theorem dX4_canFill_61 : decode cX4_canFill 61 = .ok (.iload 4, 2) := by decide +kernel
theorem dX4_canFill_63 : decode cX4_canFill 63 = .ok (.ishl, 1) := by decide +kernel
theorem dX4_canFill_64 : decode cX4_canFill 64 = .ok (.iconst (-1), 1) := by decide +kernel
theorem dX4_canFill_65 : decode cX4_canFill 65 = .ok (.ixor, 1) := by decide +kernel
theorem dX4_canFill_66 : decode cX4_canFill 66 = .ok (.iand, 1) := by decide +kernel
theorem dX4_canFill_67 : decode cX4_canFill 67 = .ok (.iload_n 3, 1) := by decide +kernel
theorem dX4_canFill_68 : decode cX4_canFill 68 = .ok (.invokestatic 24, 3) := by decide +kernel
theorem dX4_canFill_71 : decode cX4_canFill 71 = .ok (.istore 7, 2) := by decide +kernel
theorem dX4_canFill_73 : decode cX4_canFill 73 = .ok (.aload_n 0, 1) := by decide +kernel
theorem dX4_canFill_74 : decode cX4_canFill 74 = .ok (.iload 5, 2) := by decide +kernel
theorem dX4_canFill_76 : decode cX4_canFill 76 = .ok (.iload 6, 2) := by decide +kernel
theorem dX4_canFill_78 : decode cX4_canFill 78 = .ok (.invokestatic 40, 3) := by decide +kernel
theorem dX4_canFill_81 : decode cX4_canFill 81 = .ok (.iload 7, 2) := by decide +kernel
theorem dX4_canFill_83 : decode cX4_canFill 83 = .ok (.ifCond .ne 8, 3) := by decide +kernel
theorem dX4_canFill_86 : decode cX4_canFill 86 = .ok (.iload 6, 2) := by decide +kernel
theorem dX4_canFill_88 : decode cX4_canFill 88 = .ok (.ifCond .ne 6, 3) := by decide +kernel
theorem dX4_canFill_91 : decode cX4_canFill 91 = .ok (.iload 7, 2) := by decide +kernel
theorem dX4_canFill_93 : decode cX4_canFill 93 = .ok (.ireturn, 1) := by decide +kernel
theorem dX4_canFill_94 : decode cX4_canFill 94 = .ok (.iinc 5 1, 3) := by decide +kernel
theorem dX4_canFill_97 : decode cX4_canFill 97 = .ok (.goto (-79), 3) := by decide +kernel
theorem dX4_canFill_100 : decode cX4_canFill 100 = .ok (.iconst 0, 1) := by decide +kernel
theorem dX4_canFill_101 : decode cX4_canFill 101 = .ok (.ireturn, 1) := by decide +kernel
set_option maxRecDepth 20000 in
theorem ggX4_tightest_X9_lowestOf : GoodIn wsX4_tightest wsX9_lowestOf := goodIn_r _ [3, 4, 5, 2, 6, 7, 8, 9] (by decide +kernel) (by decide +kernel)
set_option maxRecDepth 20000 in
theorem gX4_tightest_X9_lowestOf_n48 : GoodIn wsX4_tightest (wsX9_lowestOf) := ggX4_tightest_X9_lowestOf
set_option maxRecDepth 20000 in
theorem ggX4_tightest_X9_has : GoodIn wsX4_tightest wsX9_has := goodIn_r _ [6, 7, 8, 2, 9] (by decide +kernel) (by decide +kernel)
set_option maxRecDepth 20000 in
theorem gX4_tightest_X9_has_n28 : GoodIn wsX4_tightest (wsX9_has) := ggX4_tightest_X9_has
set_option maxRecDepth 20000 in
theorem ggX4_tightest_X9_at : GoodIn wsX4_tightest wsX9_at := goodIn_r _ [11] (by decide +kernel) (by decide +kernel)
set_option maxRecDepth 20000 in
theorem gX4_tightest_X9_at_n36 : GoodIn wsX4_tightest (wsX9_at) := ggX4_tightest_X9_at
set_option maxRecDepth 20000 in
theorem ggX4_tightest_X4_freeWatches : GoodIn wsX4_tightest wsX4_freeWatches := goodIn_r _ [15, 10, 2, 11] (by decide +kernel) (by decide +kernel)
set_option maxRecDepth 20000 in
theorem gX4_tightest_X4_freeWatches : GoodIn wsX4_tightest (va_wsS RX4 52 yX4_freeWatches wsX4_freeWatches) := goodIn_app (goodIn_of _ (by decide +kernel)) ggX4_tightest_X4_freeWatches
theorem dX4_tightest_0 : decode cX4_tightest 0 = .ok (.iload_n 2, 1) := by decide +kernel
theorem dX4_tightest_1 : decode cX4_tightest 1 = .ok (.invokestatic 48, 3) := by decide +kernel
theorem dX4_tightest_4 : decode cX4_tightest 4 = .ok (.istore 4, 2) := by decide +kernel
theorem dX4_tightest_6 : decode cX4_tightest 6 = .ok (.bipush 17, 2) := by decide +kernel
theorem dX4_tightest_8 : decode cX4_tightest 8 = .ok (.istore 5, 2) := by decide +kernel
theorem dX4_tightest_10 : decode cX4_tightest 10 = .ok (.iconst 0, 1) := by decide +kernel
theorem dX4_tightest_11 : decode cX4_tightest 11 = .ok (.istore 6, 2) := by decide +kernel
theorem dX4_tightest_13 : decode cX4_tightest 13 = .ok (.iload 6, 2) := by decide +kernel
theorem dX4_tightest_15 : decode cX4_tightest 15 = .ok (.bipush 16, 2) := by decide +kernel
theorem dX4_tightest_17 : decode cX4_tightest 17 = .ok (.if_icmp .ge 46, 3) := by decide +kernel
theorem dX4_tightest_20 : decode cX4_tightest 20 = .ok (.iload_n 2, 1) := by decide +kernel
theorem dX4_tightest_21 : decode cX4_tightest 21 = .ok (.iload 6, 2) := by decide +kernel
theorem dX4_tightest_23 : decode cX4_tightest 23 = .ok (.invokestatic 28, 3) := by decide +kernel
theorem dX4_tightest_26 : decode cX4_tightest 26 = .ok (.ifCond .eq 31, 3) := by decide +kernel
theorem dX4_tightest_29 : decode cX4_tightest 29 = .ok (.aload_n 0, 1) := by decide +kernel
theorem dX4_tightest_30 : decode cX4_tightest 30 = .ok (.aload_n 1, 1) := by decide +kernel
theorem dX4_tightest_31 : decode cX4_tightest 31 = .ok (.iload 6, 2) := by decide +kernel
theorem dX4_tightest_33 : decode cX4_tightest 33 = .ok (.invokestatic 36, 3) := by decide +kernel
theorem dX4_tightest_36 : decode cX4_tightest 36 = .ok (.iload_n 3, 1) := by decide +kernel
theorem dX4_tightest_37 : decode cX4_tightest 37 = .ok (.invokestatic 52, 3) := by decide +kernel
theorem dX4_tightest_40 : decode cX4_tightest 40 = .ok (.istore 7, 2) := by decide +kernel
theorem dX4_tightest_42 : decode cX4_tightest 42 = .ok (.iload 7, 2) := by decide +kernel
theorem dX4_tightest_44 : decode cX4_tightest 44 = .ok (.iload 5, 2) := by decide +kernel
theorem dX4_tightest_46 : decode cX4_tightest 46 = .ok (.if_icmp .ge 11, 3) := by decide +kernel
theorem dX4_tightest_49 : decode cX4_tightest 49 = .ok (.iload 7, 2) := by decide +kernel
theorem dX4_tightest_51 : decode cX4_tightest 51 = .ok (.istore 5, 2) := by decide +kernel
theorem dX4_tightest_53 : decode cX4_tightest 53 = .ok (.iload 6, 2) := by decide +kernel
theorem dX4_tightest_55 : decode cX4_tightest 55 = .ok (.istore 4, 2) := by decide +kernel
theorem dX4_tightest_57 : decode cX4_tightest 57 = .ok (.iinc 6 1, 3) := by decide +kernel
theorem dX4_tightest_60 : decode cX4_tightest 60 = .ok (.goto (-47), 3) := by decide +kernel
theorem dX4_tightest_63 : decode cX4_tightest 63 = .ok (.iload 4, 2) := by decide +kernel
theorem dX4_tightest_65 : decode cX4_tightest 65 = .ok (.ireturn, 1) := by decide +kernel
set_option maxRecDepth 20000 in
theorem ggX4_freeWatches_X9_at : GoodIn wsX4_freeWatches wsX9_at := goodIn_r _ [3] (by decide +kernel) (by decide +kernel)
set_option maxRecDepth 20000 in
theorem gX4_freeWatches_X9_at_n36 : GoodIn wsX4_freeWatches (wsX9_at) := ggX4_freeWatches_X9_at
theorem dX4_freeWatches_0 : decode cX4_freeWatches 0 = .ok (.iconst 0, 1) := by decide +kernel
theorem dX4_freeWatches_1 : decode cX4_freeWatches 1 = .ok (.istore_n 3, 1) := by decide +kernel
theorem dX4_freeWatches_2 : decode cX4_freeWatches 2 = .ok (.iconst 0, 1) := by decide +kernel
theorem dX4_freeWatches_3 : decode cX4_freeWatches 3 = .ok (.istore 4, 2) := by decide +kernel
theorem dX4_freeWatches_5 : decode cX4_freeWatches 5 = .ok (.iload 4, 2) := by decide +kernel
theorem dX4_freeWatches_7 : decode cX4_freeWatches 7 = .ok (.iload_n 2, 1) := by decide +kernel
theorem dX4_freeWatches_8 : decode cX4_freeWatches 8 = .ok (.if_icmp .ge 23, 3) := by decide +kernel
theorem dX4_freeWatches_11 : decode cX4_freeWatches 11 = .ok (.aload_n 0, 1) := by decide +kernel
theorem dX4_freeWatches_12 : decode cX4_freeWatches 12 = .ok (.iload 4, 2) := by decide +kernel
theorem dX4_freeWatches_14 : decode cX4_freeWatches 14 = .ok (.invokestatic 36, 3) := by decide +kernel
theorem dX4_freeWatches_17 : decode cX4_freeWatches 17 = .ok (.iload_n 1, 1) := by decide +kernel
theorem dX4_freeWatches_18 : decode cX4_freeWatches 18 = .ok (.iand, 1) := by decide +kernel
theorem dX4_freeWatches_19 : decode cX4_freeWatches 19 = .ok (.ifCond .ne 6, 3) := by decide +kernel
theorem dX4_freeWatches_22 : decode cX4_freeWatches 22 = .ok (.iinc 3 1, 3) := by decide +kernel
theorem dX4_freeWatches_25 : decode cX4_freeWatches 25 = .ok (.iinc 4 1, 3) := by decide +kernel
theorem dX4_freeWatches_28 : decode cX4_freeWatches 28 = .ok (.goto (-23), 3) := by decide +kernel
theorem dX4_freeWatches_31 : decode cX4_freeWatches 31 = .ok (.iload_n 3, 1) := by decide +kernel
theorem dX4_freeWatches_32 : decode cX4_freeWatches 32 = .ok (.ireturn, 1) := by decide +kernel
theorem dX5_init_0 : decode cX5_init 0 = .ok (.aload_n 0, 1) := by decide +kernel
theorem dX5_init_1 : decode cX5_init 1 = .ok (.invokespecial 3, 3) := by decide +kernel
theorem dX5_init_4 : decode cX5_init 4 = .ok (.aload_n 0, 1) := by decide +kernel
theorem dX5_init_5 : decode cX5_init 5 = .ok (.bipush 16, 2) := by decide +kernel
theorem dX5_init_7 : decode cX5_init 7 = .ok (.newarray .int, 2) := by decide +kernel
theorem dX5_init_9 : decode cX5_init 9 = .ok (.putfield 9, 3) := by decide +kernel
theorem dX5_init_12 : decode cX5_init 12 = .ok (.aload_n 0, 1) := by decide +kernel
theorem dX5_init_13 : decode cX5_init 13 = .ok (.bipush 8, 2) := by decide +kernel
theorem dX5_init_15 : decode cX5_init 15 = .ok (.newarray .int, 2) := by decide +kernel
theorem dX5_init_17 : decode cX5_init 17 = .ok (.putfield 17, 3) := by decide +kernel
theorem dX5_init_20 : decode cX5_init 20 = .ok (.aload_n 0, 1) := by decide +kernel
theorem dX5_init_21 : decode cX5_init 21 = .ok (.iconst 0, 1) := by decide +kernel
theorem dX5_init_22 : decode cX5_init 22 = .ok (.putfield 20, 3) := by decide +kernel
theorem dX5_init_25 : decode cX5_init 25 = .ok (.aload_n 0, 1) := by decide +kernel
theorem dX5_init_26 : decode cX5_init 26 = .ok (.iconst 0, 1) := by decide +kernel
theorem dX5_init_27 : decode cX5_init 27 = .ok (.putfield 24, 3) := by decide +kernel
theorem dX5_init_30 : decode cX5_init 30 = .ok (.return_, 1) := by decide +kernel
set_option maxRecDepth 20000 in
theorem ggX5_passes_X5_walk : GoodIn wsX5_passes wsX5_walk := goodIn_r _ [8, 3, 4, 9, 10, 11, 12, 13, 14, 15, 16, 17, 18, 19, 20, 21, 22, 23, 24, 25, 26, 27, 28, 29, 30, 31, 32, 33, 34, 35, 36, 37, 38, 39, 40, 41, 42, 117, 118, 119, 120, 121, 122, 123, 124, 125, 126, 127, 128, 129, 130, 131, 132] (by decide +kernel) (by decide +kernel)
set_option maxRecDepth 20000 in
theorem gX5_passes_X5_walk : GoodIn wsX5_passes (va_wsS RX5 32 yX5_walk wsX5_walk) := goodIn_app (goodIn_of _ (by decide +kernel)) ggX5_passes_X5_walk
set_option maxRecDepth 20000 in
theorem ggX5_passes_X5_lookAround : GoodIn wsX5_passes wsX5_lookAround := goodIn_r _ [46, 47, 9, 48, 49, 50, 51, 52, 10, 11, 12, 13, 14, 15, 16, 17, 18, 19, 20, 21, 33, 34, 41, 42, 35, 36, 37, 38, 39, 40, 113, 114, 115, 116, 117, 118, 119, 120, 121, 122, 123, 124, 125, 126, 127, 128, 129, 130] (by decide +kernel) (by decide +kernel)
set_option maxRecDepth 20000 in
theorem gX5_passes_X5_lookAround : GoodIn wsX5_passes (wsV RX5 36 RX5 yX5_lookAround wsX5_lookAround) := goodIn_app (goodIn_of _ (by decide +kernel)) ggX5_passes_X5_lookAround
set_option maxRecDepth 20000 in
theorem ggX5_passes_X1_isTold : GoodIn wsX5_passes wsX1_isTold := goodIn_r _ [39, 40, 16, 17, 18, 19, 20, 21, 127, 128, 129, 130] (by decide +kernel) (by decide +kernel)
set_option maxRecDepth 20000 in
theorem gX5_passes_X1_isTold : GoodIn wsX5_passes (wsV RX5 40 RX1 yX1_isTold wsX1_isTold) := goodIn_app (goodIn_of _ (by decide +kernel)) ggX5_passes_X1_isTold
set_option maxRecDepth 20000 in
theorem ggX5_passes_X9_at : GoodIn wsX5_passes wsX9_at := goodIn_r _ [34] (by decide +kernel) (by decide +kernel)
set_option maxRecDepth 20000 in
theorem gX5_passes_X9_at_n49 : GoodIn wsX5_passes (wsX9_at) := ggX5_passes_X9_at
set_option maxRecDepth 20000 in
theorem ggX5_passes_X5_know : GoodIn wsX5_passes wsX5_know := goodIn_r _ [56, 57, 58, 59, 47, 48, 3, 60, 41, 17, 42, 33, 34, 61, 62, 63, 19, 20, 21, 16, 18, 113, 114, 115, 116, 117, 118, 119, 120, 121, 122, 123, 124, 125, 126] (by decide +kernel) (by decide +kernel)
set_option maxRecDepth 20000 in
theorem gX5_passes_X5_know : GoodIn wsX5_passes (wsV RX5 53 RX5 yX5_know wsX5_know) := goodIn_app (goodIn_of _ (by decide +kernel)) ggX5_passes_X5_know
set_option maxRecDepth 20000 in
theorem ggX5_passes_X5_tempt : GoodIn wsX5_passes wsX5_tempt := goodIn_r _ [67, 57, 47, 1, 60, 49, 50, 51, 52, 68, 59, 69, 70, 71, 72, 73, 74, 75, 76, 77, 78, 33, 17, 34, 79, 80, 81, 82, 83, 84, 85, 86, 41, 42, 87, 88, 89, 90, 91, 92, 93, 94, 95, 96, 97, 98, 99, 100, 101, 102, 103, 104, 13, 105, 106, 107, 108, 109, 110, 7, 111, 9, 112, 2, 10, 11, 12, 14, 15, 16, 18, 19, 20, 21, 113, 114, 115, 116, 117, 118, 119, 120, 121, 122, 123, 124, 125, 126, 133, 134, 135, 136, 137, 138, 139, 140, 141, 142] (by decide +kernel) (by decide +kernel)
set_option maxRecDepth 20000 in
theorem gX5_passes_X5_tempt : GoodIn wsX5_passes (wsV RX5 57 RX5 yX5_tempt wsX5_tempt) := goodIn_app (goodIn_of _ (by decide +kernel)) ggX5_passes_X5_tempt
theorem dX5_passes_0 : decode cX5_passes 0 = .ok (.aload_n 0, 1) := by decide +kernel
theorem dX5_passes_1 : decode cX5_passes 1 = .ok (.iconst 0, 1) := by decide +kernel
theorem dX5_passes_2 : decode cX5_passes 2 = .ok (.putfield 20, 3) := by decide +kernel
theorem dX5_passes_5 : decode cX5_passes 5 = .ok (.aload_n 0, 1) := by decide +kernel
theorem dX5_passes_6 : decode cX5_passes 6 = .ok (.iconst 0, 1) := by decide +kernel
theorem dX5_passes_7 : decode cX5_passes 7 = .ok (.putfield 24, 3) := by decide +kernel
theorem dX5_passes_10 : decode cX5_passes 10 = .ok (.aload_n 1, 1) := by decide +kernel
theorem dX5_passes_11 : decode cX5_passes 11 = .ok (.getfield 27, 3) := by decide +kernel
theorem dX5_passes_14 : decode cX5_passes 14 = .ok (.sipush 9999, 3) := by decide +kernel
theorem dX5_passes_17 : decode cX5_passes 17 = .ok (.if_icmp .lt 5, 3) := by decide +kernel
theorem dX5_passes_20 : decode cX5_passes 20 = .ok (.iconst 0, 1) := by decide +kernel
theorem dX5_passes_21 : decode cX5_passes 21 = .ok (.ireturn, 1) := by decide +kernel
theorem dX5_passes_22 : decode cX5_passes 22 = .ok (.aload_n 1, 1) := by decide +kernel
theorem dX5_passes_23 : decode cX5_passes 23 = .ok (.aload_n 3, 1) := by decide +kernel
theorem dX5_passes_24 : decode cX5_passes 24 = .ok (.aload 4, 2) := by decide +kernel
theorem dX5_passes_26 : decode cX5_passes 26 = .ok (.invokestatic 32, 3) := by decide +kernel
theorem dX5_passes_29 : decode cX5_passes 29 = .ok (.aload_n 0, 1) := by decide +kernel
theorem dX5_passes_30 : decode cX5_passes 30 = .ok (.aload_n 1, 1) := by decide +kernel
theorem dX5_passes_31 : decode cX5_passes 31 = .ok (.aload_n 3, 1) := by decide +kernel
theorem dX5_passes_32 : decode cX5_passes 32 = .ok (.invokevirtual 36, 3) := by decide +kernel
theorem dX5_passes_35 : decode cX5_passes 35 = .ok (.iconst 0, 1) := by decide +kernel
theorem dX5_passes_36 : decode cX5_passes 36 = .ok (.istore 5, 2) := by decide +kernel
theorem dX5_passes_38 : decode cX5_passes 38 = .ok (.iload 5, 2) := by decide +kernel
theorem dX5_passes_40 : decode cX5_passes 40 = .ok (.bipush 16, 2) := by decide +kernel
theorem dX5_passes_42 : decode cX5_passes 42 = .ok (.if_icmp .ge 42, 3) := by decide +kernel
theorem dX5_passes_45 : decode cX5_passes 45 = .ok (.aload_n 3, 1) := by decide +kernel
theorem dX5_passes_46 : decode cX5_passes 46 = .ok (.iload 5, 2) := by decide +kernel
theorem dX5_passes_48 : decode cX5_passes 48 = .ok (.invokevirtual 40, 3) := by decide +kernel
theorem dX5_passes_51 : decode cX5_passes 51 = .ok (.ifCond .eq 27, 3) := by decide +kernel
theorem dX5_passes_54 : decode cX5_passes 54 = .ok (.aload_n 0, 1) := by decide +kernel
theorem dX5_passes_55 : decode cX5_passes 55 = .ok (.aload_n 1, 1) := by decide +kernel
theorem dX5_passes_56 : decode cX5_passes 56 = .ok (.iload 5, 2) := by decide +kernel
theorem dX5_passes_58 : decode cX5_passes 58 = .ok (.aload_n 3, 1) := by decide +kernel
theorem dX5_passes_59 : decode cX5_passes 59 = .ok (.getfield 46, 3) := by decide +kernel
theorem dX5_passes_62 : decode cX5_passes 62 = .ok (.iload 5, 2) := by decide +kernel
theorem dX5_passes_64 : decode cX5_passes 64 = .ok (.invokestatic 49, 3) := by decide +kernel
theorem dX5_passes_67 : decode cX5_passes 67 = .ok (.invokevirtual 53, 3) := by decide +kernel
theorem dX5_passes_70 : decode cX5_passes 70 = .ok (.aload_n 0, 1) := by decide +kernel
theorem dX5_passes_71 : decode cX5_passes 71 = .ok (.aload_n 1, 1) := by decide +kernel
theorem dX5_passes_72 : decode cX5_passes 72 = .ok (.aload_n 2, 1) := by decide +kernel
theorem dX5_passes_73 : decode cX5_passes 73 = .ok (.iload 5, 2) := by decide +kernel
theorem dX5_passes_75 : decode cX5_passes 75 = .ok (.invokevirtual 57, 3) := by decide +kernel
theorem dX5_passes_78 : decode cX5_passes 78 = .ok (.iinc 5 1, 3) := by decide +kernel
theorem dX5_passes_81 : decode cX5_passes 81 = .ok (.goto (-43), 3) := by decide +kernel
theorem dX5_passes_84 : decode cX5_passes 84 = .ok (.aload_n 1, 1) := by decide +kernel
theorem dX5_passes_85 : decode cX5_passes 85 = .ok (.dup, 1) := by decide +kernel
theorem dX5_passes_86 : decode cX5_passes 86 = .ok (.getfield 27, 3) := by decide +kernel
theorem dX5_passes_89 : decode cX5_passes 89 = .ok (.iconst 1, 1) := by decide +kernel
theorem dX5_passes_90 : decode cX5_passes 90 = .ok (.iadd, 1) := by decide +kernel
theorem dX5_passes_91 : decode cX5_passes 91 = .ok (.putfield 27, 3) := by decide +kernel
theorem dX5_passes_94 : decode cX5_passes 94 = .ok (.iconst 1, 1) := by decide +kernel
theorem dX5_passes_95 : decode cX5_passes 95 = .ok (.ireturn, 1) := by decide +kernel
set_option maxRecDepth 20000 in
theorem ggX5_walk_X6_isTold : GoodIn wsX5_walk wsX6_isTold := goodIn_r _ [8, 9, 10, 11, 12, 13, 14, 15, 37, 38, 39, 40, 41, 42, 43, 44, 45, 46] (by decide +kernel) (by decide +kernel)
set_option maxRecDepth 20000 in
theorem gX5_walk_X6_isTold : GoodIn wsX5_walk (wsV RX5 61 RX6 yX6_isTold wsX6_isTold) := goodIn_app (goodIn_of _ (by decide +kernel)) ggX5_walk_X6_isTold
set_option maxRecDepth 20000 in
theorem ggX5_walk_X0_stepAt : GoodIn wsX5_walk wsX0_stepAt := goodIn_r _ [20, 21, 22, 23, 24, 25, 26, 27, 11, 28, 51, 52] (by decide +kernel) (by decide +kernel)
set_option maxRecDepth 20000 in
theorem gX5_walk_X0_stepAt : GoodIn wsX5_walk (wsV RX5 62 RX0 yX0_stepAt wsX0_stepAt) := goodIn_app (goodIn_of _ (by decide +kernel)) ggX5_walk_X0_stepAt
set_option maxRecDepth 20000 in
theorem ggX5_walk_X1_isTold : GoodIn wsX5_walk wsX1_isTold := goodIn_r _ [33, 34, 10, 11, 12, 13, 14, 15, 47, 48, 49, 50] (by decide +kernel) (by decide +kernel)
set_option maxRecDepth 20000 in
theorem gX5_walk_X1_isTold : GoodIn wsX5_walk (wsV RX5 40 RX1 yX1_isTold wsX1_isTold) := goodIn_app (goodIn_of _ (by decide +kernel)) ggX5_walk_X1_isTold
set_option maxRecDepth 20000 in
theorem ggX5_walk_X9_at : GoodIn wsX5_walk wsX9_at := goodIn_r _ [28] (by decide +kernel) (by decide +kernel)
set_option maxRecDepth 20000 in
theorem gX5_walk_X9_at_n49 : GoodIn wsX5_walk (wsX9_at) := ggX5_walk_X9_at
set_option maxRecDepth 20000 in
theorem ggX5_walk_X9_has : GoodIn wsX5_walk wsX9_has := goodIn_r _ [14, 15, 10, 11, 12] (by decide +kernel) (by decide +kernel)
set_option maxRecDepth 20000 in
theorem gX5_walk_X9_has_n71 : GoodIn wsX5_walk (wsX9_has) := ggX5_walk_X9_has
set_option maxRecDepth 20000 in
theorem ggX5_walk_X9_put : GoodIn wsX5_walk wsX9_put := goodIn_r _ [36] (by decide +kernel) (by decide +kernel)
set_option maxRecDepth 20000 in
theorem gX5_walk_X9_put_n75 : GoodIn wsX5_walk (wsX9_put) := ggX5_walk_X9_put
theorem dX5_walk_0 : decode cX5_walk 0 = .ok (.iconst 0, 1) := by decide +kernel
theorem dX5_walk_1 : decode cX5_walk 1 = .ok (.istore_n 3, 1) := by decide +kernel
theorem dX5_walk_2 : decode cX5_walk 2 = .ok (.iload_n 3, 1) := by decide +kernel
theorem dX5_walk_3 : decode cX5_walk 3 = .ok (.aload_n 2, 1) := by decide +kernel
theorem dX5_walk_4 : decode cX5_walk 4 = .ok (.arraylength, 1) := by decide +kernel
theorem dX5_walk_5 : decode cX5_walk 5 = .ok (.if_icmp .ge 80, 3) := by decide +kernel
theorem dX5_walk_8 : decode cX5_walk 8 = .ok (.aload_n 2, 1) := by decide +kernel
theorem dX5_walk_9 : decode cX5_walk 9 = .ok (.iload_n 3, 1) := by decide +kernel
theorem dX5_walk_10 : decode cX5_walk 10 = .ok (.aaload, 1) := by decide +kernel
theorem dX5_walk_11 : decode cX5_walk 11 = .ok (.astore 4, 2) := by decide +kernel
theorem dX5_walk_13 : decode cX5_walk 13 = .ok (.aload 4, 2) := by decide +kernel
theorem dX5_walk_15 : decode cX5_walk 15 = .ok (.ifnull 64, 3) := by decide +kernel
theorem dX5_walk_18 : decode cX5_walk 18 = .ok (.aload_n 0, 1) := by decide +kernel
theorem dX5_walk_19 : decode cX5_walk 19 = .ok (.iload_n 3, 1) := by decide +kernel
theorem dX5_walk_20 : decode cX5_walk 20 = .ok (.invokevirtual 61, 3) := by decide +kernel
theorem dX5_walk_23 : decode cX5_walk 23 = .ok (.ifCond .eq 56, 3) := by decide +kernel
theorem dX5_walk_26 : decode cX5_walk 26 = .ok (.aload 4, 2) := by decide +kernel
theorem dX5_walk_28 : decode cX5_walk 28 = .ok (.aload_n 0, 1) := by decide +kernel
theorem dX5_walk_29 : decode cX5_walk 29 = .ok (.getfield 27, 3) := by decide +kernel
theorem dX5_walk_32 : decode cX5_walk 32 = .ok (.invokevirtual 62, 3) := by decide +kernel
theorem dX5_walk_35 : decode cX5_walk 35 = .ok (.istore 5, 2) := by decide +kernel
theorem dX5_walk_37 : decode cX5_walk 37 = .ok (.aload_n 1, 1) := by decide +kernel
theorem dX5_walk_38 : decode cX5_walk 38 = .ok (.iload 5, 2) := by decide +kernel
theorem dX5_walk_40 : decode cX5_walk 40 = .ok (.invokevirtual 40, 3) := by decide +kernel
theorem dX5_walk_43 : decode cX5_walk 43 = .ok (.ifCond .eq 36, 3) := by decide +kernel
theorem dX5_walk_46 : decode cX5_walk 46 = .ok (.aload_n 1, 1) := by decide +kernel
theorem dX5_walk_47 : decode cX5_walk 47 = .ok (.getfield 46, 3) := by decide +kernel
theorem dX5_walk_50 : decode cX5_walk 50 = .ok (.aload_n 0, 1) := by decide +kernel
theorem dX5_walk_51 : decode cX5_walk 51 = .ok (.getfield 68, 3) := by decide +kernel
theorem dX5_walk_54 : decode cX5_walk 54 = .ok (.iload_n 3, 1) := by decide +kernel
theorem dX5_walk_55 : decode cX5_walk 55 = .ok (.invokestatic 49, 3) := by decide +kernel
theorem dX5_walk_58 : decode cX5_walk 58 = .ok (.invokestatic 49, 3) := by decide +kernel
theorem dX5_walk_61 : decode cX5_walk 61 = .ok (.iload 5, 2) := by decide +kernel
theorem dX5_walk_63 : decode cX5_walk 63 = .ok (.invokestatic 71, 3) := by decide +kernel
theorem dX5_walk_66 : decode cX5_walk 66 = .ok (.ifCond .eq 13, 3) := by decide +kernel
theorem dX5_walk_69 : decode cX5_walk 69 = .ok (.aload_n 0, 1) := by decide +kernel
theorem dX5_walk_70 : decode cX5_walk 70 = .ok (.getfield 68, 3) := by decide +kernel
theorem dX5_walk_73 : decode cX5_walk 73 = .ok (.iload_n 3, 1) := by decide +kernel
theorem dX5_walk_74 : decode cX5_walk 74 = .ok (.iload 5, 2) := by decide +kernel
theorem dX5_walk_76 : decode cX5_walk 76 = .ok (.invokestatic 75, 3) := by decide +kernel
theorem dX5_walk_79 : decode cX5_walk 79 = .ok (.iinc 3 1, 3) := by decide +kernel
theorem dX5_walk_82 : decode cX5_walk 82 = .ok (.goto (-80), 3) := by decide +kernel
theorem dX5_walk_85 : decode cX5_walk 85 = .ok (.return_, 1) := by decide +kernel
set_option maxRecDepth 20000 in
theorem ggX5_lookAround_X6_isTold : GoodIn wsX5_lookAround wsX6_isTold := goodIn_r _ [12, 13, 14, 15, 16, 17, 18, 19, 34, 35, 36, 37, 38, 39, 40, 41, 42, 43] (by decide +kernel) (by decide +kernel)
set_option maxRecDepth 20000 in
theorem gX5_lookAround_X6_isTold : GoodIn wsX5_lookAround (wsV RX5 61 RX6 yX6_isTold wsX6_isTold) := goodIn_app (goodIn_of _ (by decide +kernel)) ggX5_lookAround_X6_isTold
set_option maxRecDepth 20000 in
theorem ggX5_lookAround_X9_at : GoodIn wsX5_lookAround wsX9_at := goodIn_r _ [21] (by decide +kernel) (by decide +kernel)
set_option maxRecDepth 20000 in
theorem gX5_lookAround_X9_at_n49 : GoodIn wsX5_lookAround (wsX9_at) := ggX5_lookAround_X9_at
set_option maxRecDepth 20000 in
theorem ggX5_lookAround_X9_put : GoodIn wsX5_lookAround wsX9_put := goodIn_r _ [23] (by decide +kernel) (by decide +kernel)
set_option maxRecDepth 20000 in
theorem gX5_lookAround_X9_put_n75 : GoodIn wsX5_lookAround (wsX9_put) := ggX5_lookAround_X9_put
set_option maxRecDepth 20000 in
theorem ggX5_lookAround_X1_isTold : GoodIn wsX5_lookAround wsX1_isTold := goodIn_r _ [28, 29, 14, 15, 16, 17, 18, 19, 44, 45, 46, 47] (by decide +kernel) (by decide +kernel)
set_option maxRecDepth 20000 in
theorem gX5_lookAround_X1_isTold : GoodIn wsX5_lookAround (wsV RX5 40 RX1 yX1_isTold wsX1_isTold) := goodIn_app (goodIn_of _ (by decide +kernel)) ggX5_lookAround_X1_isTold
theorem dX5_lookAround_0 : decode cX5_lookAround 0 = .ok (.iconst 0, 1) := by decide +kernel
theorem dX5_lookAround_1 : decode cX5_lookAround 1 = .ok (.istore_n 3, 1) := by decide +kernel
theorem dX5_lookAround_2 : decode cX5_lookAround 2 = .ok (.iload_n 3, 1) := by decide +kernel
theorem dX5_lookAround_3 : decode cX5_lookAround 3 = .ok (.aload_n 0, 1) := by decide +kernel
theorem dX5_lookAround_4 : decode cX5_lookAround 4 = .ok (.getfield 9, 3) := by decide +kernel
theorem dX5_lookAround_7 : decode cX5_lookAround 7 = .ok (.arraylength, 1) := by decide +kernel
theorem dX5_lookAround_8 : decode cX5_lookAround 8 = .ok (.if_icmp .ge 16, 3) := by decide +kernel
theorem dX5_lookAround_11 : decode cX5_lookAround 11 = .ok (.aload_n 0, 1) := by decide +kernel
theorem dX5_lookAround_12 : decode cX5_lookAround 12 = .ok (.getfield 9, 3) := by decide +kernel
theorem dX5_lookAround_15 : decode cX5_lookAround 15 = .ok (.iload_n 3, 1) := by decide +kernel
theorem dX5_lookAround_16 : decode cX5_lookAround 16 = .ok (.iconst 0, 1) := by decide +kernel
theorem dX5_lookAround_17 : decode cX5_lookAround 17 = .ok (.iastore, 1) := by decide +kernel
theorem dX5_lookAround_18 : decode cX5_lookAround 18 = .ok (.iinc 3 1, 3) := by decide +kernel
theorem dX5_lookAround_21 : decode cX5_lookAround 21 = .ok (.goto (-19), 3) := by decide +kernel
theorem dX5_lookAround_24 : decode cX5_lookAround 24 = .ok (.iconst 0, 1) := by decide +kernel
theorem dX5_lookAround_25 : decode cX5_lookAround 25 = .ok (.istore_n 3, 1) := by decide +kernel
theorem dX5_lookAround_26 : decode cX5_lookAround 26 = .ok (.iload_n 3, 1) := by decide +kernel
theorem dX5_lookAround_27 : decode cX5_lookAround 27 = .ok (.bipush 8, 2) := by decide +kernel
theorem dX5_lookAround_29 : decode cX5_lookAround 29 = .ok (.if_icmp .ge 47, 3) := by decide +kernel
theorem dX5_lookAround_32 : decode cX5_lookAround 32 = .ok (.aload_n 1, 1) := by decide +kernel
theorem dX5_lookAround_33 : decode cX5_lookAround 33 = .ok (.iload_n 3, 1) := by decide +kernel
theorem dX5_lookAround_34 : decode cX5_lookAround 34 = .ok (.invokevirtual 61, 3) := by decide +kernel
theorem dX5_lookAround_37 : decode cX5_lookAround 37 = .ok (.ifCond .eq 33, 3) := by decide +kernel
theorem dX5_lookAround_40 : decode cX5_lookAround 40 = .ok (.aload_n 1, 1) := by decide +kernel
theorem dX5_lookAround_41 : decode cX5_lookAround 41 = .ok (.getfield 68, 3) := by decide +kernel
theorem dX5_lookAround_44 : decode cX5_lookAround 44 = .ok (.iload_n 3, 1) := by decide +kernel
theorem dX5_lookAround_45 : decode cX5_lookAround 45 = .ok (.invokestatic 49, 3) := by decide +kernel
theorem dX5_lookAround_48 : decode cX5_lookAround 48 = .ok (.istore 4, 2) := by decide +kernel
theorem dX5_lookAround_50 : decode cX5_lookAround 50 = .ok (.aload_n 0, 1) := by decide +kernel
theorem dX5_lookAround_51 : decode cX5_lookAround 51 = .ok (.getfield 9, 3) := by decide +kernel
theorem dX5_lookAround_54 : decode cX5_lookAround 54 = .ok (.iload 4, 2) := by decide +kernel
theorem dX5_lookAround_56 : decode cX5_lookAround 56 = .ok (.aload_n 0, 1) := by decide +kernel
theorem dX5_lookAround_57 : decode cX5_lookAround 57 = .ok (.getfield 9, 3) := by decide +kernel
theorem dX5_lookAround_60 : decode cX5_lookAround 60 = .ok (.iload 4, 2) := by decide +kernel
theorem dX5_lookAround_62 : decode cX5_lookAround 62 = .ok (.invokestatic 49, 3) := by decide +kernel
theorem dX5_lookAround_65 : decode cX5_lookAround 65 = .ok (.iconst 1, 1) := by decide +kernel
theorem dX5_lookAround_66 : decode cX5_lookAround 66 = .ok (.iadd, 1) := by decide +kernel
theorem dX5_lookAround_67 : decode cX5_lookAround 67 = .ok (.invokestatic 75, 3) := by decide +kernel
theorem dX5_lookAround_70 : decode cX5_lookAround 70 = .ok (.iinc 3 1, 3) := by decide +kernel
theorem dX5_lookAround_73 : decode cX5_lookAround 73 = .ok (.goto (-47), 3) := by decide +kernel
theorem dX5_lookAround_76 : decode cX5_lookAround 76 = .ok (.iconst 0, 1) := by decide +kernel
theorem dX5_lookAround_77 : decode cX5_lookAround 77 = .ok (.istore_n 3, 1) := by decide +kernel
theorem dX5_lookAround_78 : decode cX5_lookAround 78 = .ok (.iload_n 3, 1) := by decide +kernel
theorem dX5_lookAround_79 : decode cX5_lookAround 79 = .ok (.bipush 16, 2) := by decide +kernel
theorem dX5_lookAround_81 : decode cX5_lookAround 81 = .ok (.if_icmp .ge 59, 3) := by decide +kernel
theorem dX5_lookAround_84 : decode cX5_lookAround 84 = .ok (.aload_n 2, 1) := by decide +kernel
theorem dX5_lookAround_85 : decode cX5_lookAround 85 = .ok (.iload_n 3, 1) := by decide +kernel
theorem dX5_lookAround_86 : decode cX5_lookAround 86 = .ok (.invokevirtual 40, 3) := by decide +kernel
theorem dX5_lookAround_89 : decode cX5_lookAround 89 = .ok (.ifCond .eq 45, 3) := by decide +kernel
theorem dX5_lookAround_92 : decode cX5_lookAround 92 = .ok (.aload_n 1, 1) := by decide +kernel
theorem dX5_lookAround_93 : decode cX5_lookAround 93 = .ok (.getfield 79, 3) := by decide +kernel
theorem dX5_lookAround_96 : decode cX5_lookAround 96 = .ok (.iload_n 3, 1) := by decide +kernel
theorem dX5_lookAround_97 : decode cX5_lookAround 97 = .ok (.invokestatic 49, 3) := by decide +kernel
theorem dX5_lookAround_100 : decode cX5_lookAround 100 = .ok (.iconst 1, 1) := by decide +kernel
theorem dX5_lookAround_101 : decode cX5_lookAround 101 = .ok (.iadd, 1) := by decide +kernel
theorem dX5_lookAround_102 : decode cX5_lookAround 102 = .ok (.bipush 99, 2) := by decide +kernel
theorem dX5_lookAround_104 : decode cX5_lookAround 104 = .ok (.invokestatic 82, 3) := by decide +kernel
theorem dX5_lookAround_107 : decode cX5_lookAround 107 = .ok (.istore 4, 2) := by decide +kernel
theorem dX5_lookAround_109 : decode cX5_lookAround 109 = .ok (.aload_n 1, 1) := by decide +kernel
theorem dX5_lookAround_110 : decode cX5_lookAround 110 = .ok (.getfield 79, 3) := by decide +kernel
theorem dX5_lookAround_113 : decode cX5_lookAround 113 = .ok (.iload_n 3, 1) := by decide +kernel
theorem dX5_lookAround_114 : decode cX5_lookAround 114 = .ok (.aload_n 0, 1) := by decide +kernel
theorem dX5_lookAround_115 : decode cX5_lookAround 115 = .ok (.getfield 9, 3) := by decide +kernel
theorem dX5_lookAround_118 : decode cX5_lookAround 118 = .ok (.iload_n 3, 1) := by decide +kernel
theorem dX5_lookAround_119 : decode cX5_lookAround 119 = .ok (.invokestatic 49, 3) := by decide +kernel
theorem dX5_lookAround_122 : decode cX5_lookAround 122 = .ok (.ifCond .le 7, 3) := by decide +kernel
theorem dX5_lookAround_125 : decode cX5_lookAround 125 = .ok (.iconst 0, 1) := by decide +kernel
theorem dX5_lookAround_126 : decode cX5_lookAround 126 = .ok (.goto 5, 3) := by decide +kernel
theorem dX5_lookAround_129 : decode cX5_lookAround 129 = .ok (.iload 4, 2) := by decide +kernel
theorem dX5_lookAround_131 : decode cX5_lookAround 131 = .ok (.invokestatic 75, 3) := by decide +kernel
theorem dX5_lookAround_134 : decode cX5_lookAround 134 = .ok (.iinc 3 1, 3) := by decide +kernel
theorem dX5_lookAround_137 : decode cX5_lookAround 137 = .ok (.goto (-59), 3) := by decide +kernel
theorem dX5_lookAround_140 : decode cX5_lookAround 140 = .ok (.return_, 1) := by decide +kernel
set_option maxRecDepth 20000 in
theorem ggX5_know_X9_put : GoodIn wsX5_know wsX9_put := goodIn_r _ [10] (by decide +kernel) (by decide +kernel)
set_option maxRecDepth 20000 in
theorem gX5_know_X9_put_n75 : GoodIn wsX5_know (wsX9_put) := ggX5_know_X9_put
set_option maxRecDepth 20000 in
theorem ggX5_know_X9_at : GoodIn wsX5_know wsX9_at := goodIn_r _ [12] (by decide +kernel) (by decide +kernel)
set_option maxRecDepth 20000 in
theorem gX5_know_X9_at_n49 : GoodIn wsX5_know (wsX9_at) := ggX5_know_X9_at
set_option maxRecDepth 20000 in
theorem ggX5_know_X9_sumOf : GoodIn wsX5_know wsX9_sumOf := goodIn_r _ [14, 15, 16, 9, 17, 18, 19, 20] (by decide +kernel) (by decide +kernel)
set_option maxRecDepth 20000 in
theorem gX5_know_X9_sumOf_n94 : GoodIn wsX5_know (wsX9_sumOf) := ggX5_know_X9_sumOf
theorem dX5_know_0 : decode cX5_know 0 = .ok (.aload_n 0, 1) := by decide +kernel
theorem dX5_know_1 : decode cX5_know 1 = .ok (.getfield 17, 3) := by decide +kernel
theorem dX5_know_4 : decode cX5_know 4 = .ok (.iconst 0, 1) := by decide +kernel
theorem dX5_know_5 : decode cX5_know 5 = .ok (.iload_n 2, 1) := by decide +kernel
theorem dX5_know_6 : decode cX5_know 6 = .ok (.invokestatic 75, 3) := by decide +kernel
theorem dX5_know_9 : decode cX5_know 9 = .ok (.aload_n 0, 1) := by decide +kernel
theorem dX5_know_10 : decode cX5_know 10 = .ok (.getfield 17, 3) := by decide +kernel
theorem dX5_know_13 : decode cX5_know 13 = .ok (.iconst 1, 1) := by decide +kernel
theorem dX5_know_14 : decode cX5_know 14 = .ok (.aload_n 1, 1) := by decide +kernel
theorem dX5_know_15 : decode cX5_know 15 = .ok (.getfield 88, 3) := by decide +kernel
theorem dX5_know_18 : decode cX5_know 18 = .ok (.iload_n 2, 1) := by decide +kernel
theorem dX5_know_19 : decode cX5_know 19 = .ok (.invokestatic 49, 3) := by decide +kernel
theorem dX5_know_22 : decode cX5_know 22 = .ok (.invokestatic 75, 3) := by decide +kernel
theorem dX5_know_25 : decode cX5_know 25 = .ok (.aload_n 0, 1) := by decide +kernel
theorem dX5_know_26 : decode cX5_know 26 = .ok (.getfield 17, 3) := by decide +kernel
theorem dX5_know_29 : decode cX5_know 29 = .ok (.iconst 2, 1) := by decide +kernel
theorem dX5_know_30 : decode cX5_know 30 = .ok (.aload_n 1, 1) := by decide +kernel
theorem dX5_know_31 : decode cX5_know 31 = .ok (.getfield 91, 3) := by decide +kernel
theorem dX5_know_34 : decode cX5_know 34 = .ok (.iload_n 2, 1) := by decide +kernel
theorem dX5_know_35 : decode cX5_know 35 = .ok (.invokestatic 49, 3) := by decide +kernel
theorem dX5_know_38 : decode cX5_know 38 = .ok (.invokestatic 75, 3) := by decide +kernel
theorem dX5_know_41 : decode cX5_know 41 = .ok (.aload_n 0, 1) := by decide +kernel
theorem dX5_know_42 : decode cX5_know 42 = .ok (.getfield 17, 3) := by decide +kernel
theorem dX5_know_45 : decode cX5_know 45 = .ok (.iconst 3, 1) := by decide +kernel
theorem dX5_know_46 : decode cX5_know 46 = .ok (.aload_n 0, 1) := by decide +kernel
theorem dX5_know_47 : decode cX5_know 47 = .ok (.getfield 9, 3) := by decide +kernel
theorem dX5_know_50 : decode cX5_know 50 = .ok (.iload_n 2, 1) := by decide +kernel
theorem dX5_know_51 : decode cX5_know 51 = .ok (.invokestatic 49, 3) := by decide +kernel
theorem dX5_know_54 : decode cX5_know 54 = .ok (.invokestatic 75, 3) := by decide +kernel
theorem dX5_know_57 : decode cX5_know 57 = .ok (.aload_n 0, 1) := by decide +kernel
theorem dX5_know_58 : decode cX5_know 58 = .ok (.getfield 17, 3) := by decide +kernel
theorem dX5_know_61 : decode cX5_know 61 = .ok (.iconst 4, 1) := by decide +kernel
theorem dX5_know_62 : decode cX5_know 62 = .ok (.aload_n 0, 1) := by decide +kernel
theorem dX5_know_63 : decode cX5_know 63 = .ok (.getfield 9, 3) := by decide +kernel
theorem dX5_know_66 : decode cX5_know 66 = .ok (.iload_n 3, 1) := by decide +kernel
theorem dX5_know_67 : decode cX5_know 67 = .ok (.invokestatic 94, 3) := by decide +kernel
theorem dX5_know_70 : decode cX5_know 70 = .ok (.invokestatic 75, 3) := by decide +kernel
theorem dX5_know_73 : decode cX5_know 73 = .ok (.aload_n 0, 1) := by decide +kernel
theorem dX5_know_74 : decode cX5_know 74 = .ok (.getfield 17, 3) := by decide +kernel
theorem dX5_know_77 : decode cX5_know 77 = .ok (.iconst 5, 1) := by decide +kernel
theorem dX5_know_78 : decode cX5_know 78 = .ok (.aload_n 1, 1) := by decide +kernel
theorem dX5_know_79 : decode cX5_know 79 = .ok (.getfield 79, 3) := by decide +kernel
theorem dX5_know_82 : decode cX5_know 82 = .ok (.iload_n 2, 1) := by decide +kernel
theorem dX5_know_83 : decode cX5_know 83 = .ok (.invokestatic 49, 3) := by decide +kernel
theorem dX5_know_86 : decode cX5_know 86 = .ok (.invokestatic 75, 3) := by decide +kernel
theorem dX5_know_89 : decode cX5_know 89 = .ok (.aload_n 0, 1) := by decide +kernel
theorem dX5_know_90 : decode cX5_know 90 = .ok (.getfield 17, 3) := by decide +kernel
theorem dX5_know_93 : decode cX5_know 93 = .ok (.bipush 6, 2) := by decide +kernel
theorem dX5_know_95 : decode cX5_know 95 = .ok (.aload_n 1, 1) := by decide +kernel
theorem dX5_know_96 : decode cX5_know 96 = .ok (.getfield 27, 3) := by decide +kernel
theorem dX5_know_99 : decode cX5_know 99 = .ok (.bipush 24, 2) := by decide +kernel
theorem dX5_know_101 : decode cX5_know 101 = .ok (.irem, 1) := by decide +kernel
theorem dX5_know_102 : decode cX5_know 102 = .ok (.invokestatic 75, 3) := by decide +kernel
theorem dX5_know_105 : decode cX5_know 105 = .ok (.aload_n 0, 1) := by decide +kernel
theorem dX5_know_106 : decode cX5_know 106 = .ok (.getfield 17, 3) := by decide +kernel
theorem dX5_know_109 : decode cX5_know 109 = .ok (.bipush 7, 2) := by decide +kernel
theorem dX5_know_111 : decode cX5_know 111 = .ok (.aload_n 1, 1) := by decide +kernel
theorem dX5_know_112 : decode cX5_know 112 = .ok (.getfield 97, 3) := by decide +kernel
theorem dX5_know_115 : decode cX5_know 115 = .ok (.invokestatic 75, 3) := by decide +kernel
theorem dX5_know_118 : decode cX5_know 118 = .ok (.return_, 1) := by decide +kernel
set_option maxRecDepth 20000 in
theorem ggX5_tempt_X2_isSafe : GoodIn wsX5_tempt wsX2_isSafe := goodIn_r _ [16, 17, 18, 19, 20, 21, 22, 23, 24, 25, 26, 15, 27, 28, 29, 30, 31, 32, 33, 34, 35, 36, 37, 88, 89, 90, 91, 92, 93, 94, 95, 96, 97] (by decide +kernel) (by decide +kernel)
set_option maxRecDepth 20000 in
theorem gX5_tempt_X2_isSafe : GoodIn wsX5_tempt (wsV RX5 100 RX2 yX2_isSafe wsX2_isSafe) := goodIn_app (goodIn_of _ (by decide +kernel)) ggX5_tempt_X2_isSafe
set_option maxRecDepth 20000 in
theorem ggX5_tempt_X2_rate : GoodIn wsX5_tempt wsX2_rate := goodIn_r _ [41, 17, 18, 19, 20, 42, 21, 22, 23, 24, 25, 26, 15, 27, 28, 29, 30, 31, 32, 33, 34, 35, 36, 37, 43, 44, 45, 6, 7, 8, 46, 47, 48, 88, 89, 90, 91, 92, 93, 94, 95, 96, 97] (by decide +kernel) (by decide +kernel)
set_option maxRecDepth 20000 in
theorem gX5_tempt_X2_rate : GoodIn wsX5_tempt (wsV RX5 104 RX2 yX2_rate wsX2_rate) := goodIn_app (goodIn_of _ (by decide +kernel)) ggX5_tempt_X2_rate
set_option maxRecDepth 20000 in
theorem ggX5_tempt_X6_draw : GoodIn wsX5_tempt wsX6_draw := goodIn_r _ [53, 54, 55, 78, 79, 80, 81, 82, 83, 84, 85, 86, 87] (by decide +kernel) (by decide +kernel)
set_option maxRecDepth 20000 in
theorem gX5_tempt_X6_draw : GoodIn wsX5_tempt (wsV RX5 108 RX6 yX6_draw wsX6_draw) := goodIn_app (goodIn_of _ (by decide +kernel)) ggX5_tempt_X6_draw
set_option maxRecDepth 20000 in
theorem ggX5_tempt_X9_at : GoodIn wsX5_tempt wsX9_at := goodIn_r _ [23] (by decide +kernel) (by decide +kernel)
set_option maxRecDepth 20000 in
theorem gX5_tempt_X9_at_n49 : GoodIn wsX5_tempt (wsX9_at) := ggX5_tempt_X9_at
set_option maxRecDepth 20000 in
theorem ggX5_tempt_X5_pay : GoodIn wsX5_tempt wsX5_pay := goodIn_r _ [60, 61, 62, 11, 5, 6, 7, 8, 63, 64, 65, 66, 52, 67, 68, 69, 22, 70, 71, 72, 73, 21, 23, 32, 33, 78, 79, 80, 81, 82, 83, 84, 85, 86, 87, 74, 75, 76, 77] (by decide +kernel) (by decide +kernel)
set_option maxRecDepth 20000 in
theorem gX5_tempt_X5_pay : GoodIn wsX5_tempt (wsV RX5 112 RX5 yX5_pay wsX5_pay) := goodIn_app (goodIn_of _ (by decide +kernel)) ggX5_tempt_X5_pay
theorem dX5_tempt_0 : decode cX5_tempt 0 = .ok (.aload_n 2, 1) := by decide +kernel
theorem dX5_tempt_1 : decode cX5_tempt 1 = .ok (.aload_n 0, 1) := by decide +kernel
theorem dX5_tempt_2 : decode cX5_tempt 2 = .ok (.getfield 17, 3) := by decide +kernel
theorem dX5_tempt_5 : decode cX5_tempt 5 = .ok (.invokevirtual 100, 3) := by decide +kernel
theorem dX5_tempt_8 : decode cX5_tempt 8 = .ok (.ifCond .eq 4, 3) := by decide +kernel
theorem dX5_tempt_11 : decode cX5_tempt 11 = .ok (.return_, 1) := by decide +kernel
theorem dX5_tempt_12 : decode cX5_tempt 12 = .ok (.aload_n 2, 1) := by decide +kernel
theorem dX5_tempt_13 : decode cX5_tempt 13 = .ok (.bipush 114, 2) := by decide +kernel
theorem dX5_tempt_15 : decode cX5_tempt 15 = .ok (.bipush 10, 2) := by decide +kernel
theorem dX5_tempt_17 : decode cX5_tempt 17 = .ok (.aload_n 0, 1) := by decide +kernel
theorem dX5_tempt_18 : decode cX5_tempt 18 = .ok (.getfield 17, 3) := by decide +kernel
theorem dX5_tempt_21 : decode cX5_tempt 21 = .ok (.invokevirtual 104, 3) := by decide +kernel
theorem dX5_tempt_24 : decode cX5_tempt 24 = .ok (.istore 4, 2) := by decide +kernel
theorem dX5_tempt_26 : decode cX5_tempt 26 = .ok (.aload_n 1, 1) := by decide +kernel
theorem dX5_tempt_27 : decode cX5_tempt 27 = .ok (.invokevirtual 108, 3) := by decide +kernel
theorem dX5_tempt_30 : decode cX5_tempt 30 = .ok (.iload 4, 2) := by decide +kernel
theorem dX5_tempt_32 : decode cX5_tempt 32 = .ok (.if_icmp .ge 7, 3) := by decide +kernel
theorem dX5_tempt_35 : decode cX5_tempt 35 = .ok (.iconst 1, 1) := by decide +kernel
theorem dX5_tempt_36 : decode cX5_tempt 36 = .ok (.goto 4, 3) := by decide +kernel
theorem dX5_tempt_39 : decode cX5_tempt 39 = .ok (.iconst 0, 1) := by decide +kernel
theorem dX5_tempt_40 : decode cX5_tempt 40 = .ok (.istore 5, 2) := by decide +kernel
theorem dX5_tempt_42 : decode cX5_tempt 42 = .ok (.aload_n 0, 1) := by decide +kernel
theorem dX5_tempt_43 : decode cX5_tempt 43 = .ok (.getfield 9, 3) := by decide +kernel
theorem dX5_tempt_46 : decode cX5_tempt 46 = .ok (.iload_n 3, 1) := by decide +kernel
theorem dX5_tempt_47 : decode cX5_tempt 47 = .ok (.invokestatic 49, 3) := by decide +kernel
theorem dX5_tempt_50 : decode cX5_tempt 50 = .ok (.ifCond .le 24, 3) := by decide +kernel
theorem dX5_tempt_53 : decode cX5_tempt 53 = .ok (.aload_n 0, 1) := by decide +kernel
theorem dX5_tempt_54 : decode cX5_tempt 54 = .ok (.aload_n 1, 1) := by decide +kernel
theorem dX5_tempt_55 : decode cX5_tempt 55 = .ok (.iload_n 3, 1) := by decide +kernel
theorem dX5_tempt_56 : decode cX5_tempt 56 = .ok (.aload_n 2, 1) := by decide +kernel
theorem dX5_tempt_57 : decode cX5_tempt 57 = .ok (.bipush 119, 2) := by decide +kernel
theorem dX5_tempt_59 : decode cX5_tempt 59 = .ok (.bipush 99, 2) := by decide +kernel
theorem dX5_tempt_61 : decode cX5_tempt 61 = .ok (.aload_n 0, 1) := by decide +kernel
theorem dX5_tempt_62 : decode cX5_tempt 62 = .ok (.getfield 17, 3) := by decide +kernel
theorem dX5_tempt_65 : decode cX5_tempt 65 = .ok (.invokevirtual 104, 3) := by decide +kernel
theorem dX5_tempt_68 : decode cX5_tempt 68 = .ok (.invokevirtual 112, 3) := by decide +kernel
theorem dX5_tempt_71 : decode cX5_tempt 71 = .ok (.goto 56, 3) := by decide +kernel
theorem dX5_tempt_74 : decode cX5_tempt 74 = .ok (.iload 5, 2) := by decide +kernel
theorem dX5_tempt_76 : decode cX5_tempt 76 = .ok (.ifCond .eq 51, 3) := by decide +kernel
theorem dX5_tempt_79 : decode cX5_tempt 79 = .ok (.aload_n 0, 1) := by decide +kernel
theorem dX5_tempt_80 : decode cX5_tempt 80 = .ok (.dup, 1) := by decide +kernel
theorem dX5_tempt_81 : decode cX5_tempt 81 = .ok (.getfield 20, 3) := by decide +kernel
theorem dX5_tempt_84 : decode cX5_tempt 84 = .ok (.iconst 1, 1) := by decide +kernel
theorem dX5_tempt_85 : decode cX5_tempt 85 = .ok (.iadd, 1) := by decide +kernel
theorem dX5_tempt_86 : decode cX5_tempt 86 = .ok (.putfield 20, 3) := by decide +kernel
theorem dX5_tempt_89 : decode cX5_tempt 89 = .ok (.aload_n 1, 1) := by decide +kernel
theorem dX5_tempt_90 : decode cX5_tempt 90 = .ok (.aload_n 1, 1) := by decide +kernel
theorem dX5_tempt_91 : decode cX5_tempt 91 = .ok (.getfield 97, 3) := by decide +kernel
theorem dX5_tempt_94 : decode cX5_tempt 94 = .ok (.iconst 1, 1) := by decide +kernel
theorem dX5_tempt_95 : decode cX5_tempt 95 = .ok (.iadd, 1) := by decide +kernel
theorem dX5_tempt_96 : decode cX5_tempt 96 = .ok (.sipush 9999, 3) := by decide +kernel
theorem dX5_tempt_99 : decode cX5_tempt 99 = .ok (.invokestatic 82, 3) := by decide +kernel
theorem dX5_tempt_102 : decode cX5_tempt 102 = .ok (.putfield 97, 3) := by decide +kernel
theorem dX5_tempt_105 : decode cX5_tempt 105 = .ok (.aload_n 1, 1) := by decide +kernel
theorem dX5_tempt_106 : decode cX5_tempt 106 = .ok (.aload_n 1, 1) := by decide +kernel
theorem dX5_tempt_107 : decode cX5_tempt 107 = .ok (.getfield 115, 3) := by decide +kernel
theorem dX5_tempt_110 : decode cX5_tempt 110 = .ok (.aload_n 1, 1) := by decide +kernel
theorem dX5_tempt_111 : decode cX5_tempt 111 = .ok (.getfield 91, 3) := by decide +kernel
theorem dX5_tempt_114 : decode cX5_tempt 114 = .ok (.iload_n 3, 1) := by decide +kernel
theorem dX5_tempt_115 : decode cX5_tempt 115 = .ok (.invokestatic 49, 3) := by decide +kernel
theorem dX5_tempt_118 : decode cX5_tempt 118 = .ok (.iadd, 1) := by decide +kernel
theorem dX5_tempt_119 : decode cX5_tempt 119 = .ok (.ldc 118, 2) := by decide +kernel
theorem dX5_tempt_121 : decode cX5_tempt 121 = .ok (.invokestatic 82, 3) := by decide +kernel
theorem dX5_tempt_124 : decode cX5_tempt 124 = .ok (.putfield 115, 3) := by decide +kernel
theorem dX5_tempt_127 : decode cX5_tempt 127 = .ok (.return_, 1) := by decide +kernel
set_option maxRecDepth 20000 in
theorem ggX5_pay_X6_isTold : GoodIn wsX5_pay wsX6_isTold := goodIn_r _ [13, 14, 15, 16, 17, 18, 19, 20, 25, 26, 27, 28, 29, 30, 31, 32, 33, 34] (by decide +kernel) (by decide +kernel)
set_option maxRecDepth 20000 in
theorem gX5_pay_X6_isTold : GoodIn wsX5_pay (wsV RX5 61 RX6 yX6_isTold wsX6_isTold) := goodIn_app (goodIn_of _ (by decide +kernel)) ggX5_pay_X6_isTold
set_option maxRecDepth 20000 in
theorem ggX5_pay_X9_at : GoodIn wsX5_pay wsX9_at := goodIn_r _ [22] (by decide +kernel) (by decide +kernel)
set_option maxRecDepth 20000 in
theorem gX5_pay_X9_at_n49 : GoodIn wsX5_pay (wsX9_at) := ggX5_pay_X9_at
set_option maxRecDepth 20000 in
theorem ggX5_pay_X9_put : GoodIn wsX5_pay wsX9_put := goodIn_r _ [24] (by decide +kernel) (by decide +kernel)
set_option maxRecDepth 20000 in
theorem gX5_pay_X9_put_n75 : GoodIn wsX5_pay (wsX9_put) := ggX5_pay_X9_put
theorem dX5_pay_0 : decode cX5_pay 0 = .ok (.iconst 0, 1) := by decide +kernel
theorem dX5_pay_1 : decode cX5_pay 1 = .ok (.istore 4, 2) := by decide +kernel
theorem dX5_pay_3 : decode cX5_pay 3 = .ok (.iload 4, 2) := by decide +kernel
theorem dX5_pay_5 : decode cX5_pay 5 = .ok (.bipush 8, 2) := by decide +kernel
theorem dX5_pay_7 : decode cX5_pay 7 = .ok (.if_icmp .ge 66, 3) := by decide +kernel
theorem dX5_pay_10 : decode cX5_pay 10 = .ok (.aload_n 1, 1) := by decide +kernel
theorem dX5_pay_11 : decode cX5_pay 11 = .ok (.iload 4, 2) := by decide +kernel
theorem dX5_pay_13 : decode cX5_pay 13 = .ok (.invokevirtual 61, 3) := by decide +kernel
theorem dX5_pay_16 : decode cX5_pay 16 = .ok (.ifCond .eq 51, 3) := by decide +kernel
theorem dX5_pay_19 : decode cX5_pay 19 = .ok (.aload_n 1, 1) := by decide +kernel
theorem dX5_pay_20 : decode cX5_pay 20 = .ok (.getfield 68, 3) := by decide +kernel
theorem dX5_pay_23 : decode cX5_pay 23 = .ok (.iload 4, 2) := by decide +kernel
theorem dX5_pay_25 : decode cX5_pay 25 = .ok (.invokestatic 49, 3) := by decide +kernel
theorem dX5_pay_28 : decode cX5_pay 28 = .ok (.iload_n 2, 1) := by decide +kernel
theorem dX5_pay_29 : decode cX5_pay 29 = .ok (.if_icmp .ne 38, 3) := by decide +kernel
theorem dX5_pay_32 : decode cX5_pay 32 = .ok (.aload_n 1, 1) := by decide +kernel
theorem dX5_pay_33 : decode cX5_pay 33 = .ok (.getfield 119, 3) := by decide +kernel
theorem dX5_pay_36 : decode cX5_pay 36 = .ok (.iload 4, 2) := by decide +kernel
theorem dX5_pay_38 : decode cX5_pay 38 = .ok (.aload_n 1, 1) := by decide +kernel
theorem dX5_pay_39 : decode cX5_pay 39 = .ok (.getfield 119, 3) := by decide +kernel
theorem dX5_pay_42 : decode cX5_pay 42 = .ok (.iload 4, 2) := by decide +kernel
theorem dX5_pay_44 : decode cX5_pay 44 = .ok (.invokestatic 49, 3) := by decide +kernel
theorem dX5_pay_47 : decode cX5_pay 47 = .ok (.iload_n 3, 1) := by decide +kernel
theorem dX5_pay_48 : decode cX5_pay 48 = .ok (.iadd, 1) := by decide +kernel
theorem dX5_pay_49 : decode cX5_pay 49 = .ok (.ldc 118, 2) := by decide +kernel
theorem dX5_pay_51 : decode cX5_pay 51 = .ok (.invokestatic 82, 3) := by decide +kernel
theorem dX5_pay_54 : decode cX5_pay 54 = .ok (.invokestatic 75, 3) := by decide +kernel
theorem dX5_pay_57 : decode cX5_pay 57 = .ok (.aload_n 0, 1) := by decide +kernel
theorem dX5_pay_58 : decode cX5_pay 58 = .ok (.dup, 1) := by decide +kernel
theorem dX5_pay_59 : decode cX5_pay 59 = .ok (.getfield 24, 3) := by decide +kernel
theorem dX5_pay_62 : decode cX5_pay 62 = .ok (.iload_n 3, 1) := by decide +kernel
theorem dX5_pay_63 : decode cX5_pay 63 = .ok (.iadd, 1) := by decide +kernel
theorem dX5_pay_64 : decode cX5_pay 64 = .ok (.putfield 24, 3) := by decide +kernel
theorem dX5_pay_67 : decode cX5_pay 67 = .ok (.iinc 4 1, 3) := by decide +kernel
theorem dX5_pay_70 : decode cX5_pay 70 = .ok (.goto (-67), 3) := by decide +kernel
theorem dX5_pay_73 : decode cX5_pay 73 = .ok (.return_, 1) := by decide +kernel
theorem dX6_init_0 : decode cX6_init 0 = .ok (.aload_n 0, 1) := by decide +kernel
theorem dX6_init_1 : decode cX6_init 1 = .ok (.invokespecial 3, 3) := by decide +kernel
theorem dX6_init_4 : decode cX6_init 4 = .ok (.aload_n 0, 1) := by decide +kernel
theorem dX6_init_5 : decode cX6_init 5 = .ok (.bipush 16, 2) := by decide +kernel
theorem dX6_init_7 : decode cX6_init 7 = .ok (.newarray .int, 2) := by decide +kernel
theorem dX6_init_9 : decode cX6_init 9 = .ok (.putfield 9, 3) := by decide +kernel
theorem dX6_init_12 : decode cX6_init 12 = .ok (.aload_n 0, 1) := by decide +kernel
theorem dX6_init_13 : decode cX6_init 13 = .ok (.bipush 16, 2) := by decide +kernel
theorem dX6_init_15 : decode cX6_init 15 = .ok (.newarray .int, 2) := by decide +kernel
theorem dX6_init_17 : decode cX6_init 17 = .ok (.putfield 15, 3) := by decide +kernel
theorem dX6_init_20 : decode cX6_init 20 = .ok (.aload_n 0, 1) := by decide +kernel
theorem dX6_init_21 : decode cX6_init 21 = .ok (.bipush 16, 2) := by decide +kernel
theorem dX6_init_23 : decode cX6_init 23 = .ok (.newarray .int, 2) := by decide +kernel
theorem dX6_init_25 : decode cX6_init 25 = .ok (.putfield 18, 3) := by decide +kernel
theorem dX6_init_28 : decode cX6_init 28 = .ok (.aload_n 0, 1) := by decide +kernel
theorem dX6_init_29 : decode cX6_init 29 = .ok (.bipush 8, 2) := by decide +kernel
theorem dX6_init_31 : decode cX6_init 31 = .ok (.newarray .int, 2) := by decide +kernel
theorem dX6_init_33 : decode cX6_init 33 = .ok (.putfield 21, 3) := by decide +kernel
theorem dX6_init_36 : decode cX6_init 36 = .ok (.aload_n 0, 1) := by decide +kernel
theorem dX6_init_37 : decode cX6_init 37 = .ok (.bipush 8, 2) := by decide +kernel
theorem dX6_init_39 : decode cX6_init 39 = .ok (.newarray .int, 2) := by decide +kernel
theorem dX6_init_41 : decode cX6_init 41 = .ok (.putfield 24, 3) := by decide +kernel
theorem dX6_init_44 : decode cX6_init 44 = .ok (.aload_n 0, 1) := by decide +kernel
theorem dX6_init_45 : decode cX6_init 45 = .ok (.iconst 0, 1) := by decide +kernel
theorem dX6_init_46 : decode cX6_init 46 = .ok (.putfield 27, 3) := by decide +kernel
theorem dX6_init_49 : decode cX6_init 49 = .ok (.aload_n 0, 1) := by decide +kernel
theorem dX6_init_50 : decode cX6_init 50 = .ok (.iconst 0, 1) := by decide +kernel
theorem dX6_init_51 : decode cX6_init 51 = .ok (.putfield 31, 3) := by decide +kernel
theorem dX6_init_54 : decode cX6_init 54 = .ok (.aload_n 0, 1) := by decide +kernel
theorem dX6_init_55 : decode cX6_init 55 = .ok (.iconst 0, 1) := by decide +kernel
theorem dX6_init_56 : decode cX6_init 56 = .ok (.putfield 34, 3) := by decide +kernel
theorem dX6_init_59 : decode cX6_init 59 = .ok (.aload_n 0, 1) := by decide +kernel
theorem dX6_init_60 : decode cX6_init 60 = .ok (.iconst 0, 1) := by decide +kernel
theorem dX6_init_61 : decode cX6_init 61 = .ok (.putfield 37, 3) := by decide +kernel
theorem dX6_init_64 : decode cX6_init 64 = .ok (.aload_n 0, 1) := by decide +kernel
theorem dX6_init_65 : decode cX6_init 65 = .ok (.iconst 1, 1) := by decide +kernel
theorem dX6_init_66 : decode cX6_init 66 = .ok (.putfield 40, 3) := by decide +kernel
theorem dX6_init_69 : decode cX6_init 69 = .ok (.return_, 1) := by decide +kernel
set_option maxRecDepth 20000 in
theorem ggX6_copy_X9_at : GoodIn wsX6_copy wsX9_at := goodIn_r _ [13] (by decide +kernel) (by decide +kernel)
set_option maxRecDepth 20000 in
theorem gX6_copy_X9_at_n43 : GoodIn wsX6_copy (wsX9_at) := ggX6_copy_X9_at
set_option maxRecDepth 20000 in
theorem ggX6_copy_X9_put : GoodIn wsX6_copy wsX9_put := goodIn_r _ [15] (by decide +kernel) (by decide +kernel)
set_option maxRecDepth 20000 in
theorem gX6_copy_X9_put_n47 : GoodIn wsX6_copy (wsX9_put) := ggX6_copy_X9_put
theorem dX6_copy_0 : decode cX6_copy 0 = .ok (.iconst 0, 1) := by decide +kernel
theorem dX6_copy_1 : decode cX6_copy 1 = .ok (.istore_n 2, 1) := by decide +kernel
theorem dX6_copy_2 : decode cX6_copy 2 = .ok (.iload_n 2, 1) := by decide +kernel
theorem dX6_copy_3 : decode cX6_copy 3 = .ok (.bipush 16, 2) := by decide +kernel
theorem dX6_copy_5 : decode cX6_copy 5 = .ok (.if_icmp .ge 57, 3) := by decide +kernel
theorem dX6_copy_8 : decode cX6_copy 8 = .ok (.aload_n 0, 1) := by decide +kernel
theorem dX6_copy_9 : decode cX6_copy 9 = .ok (.getfield 9, 3) := by decide +kernel
theorem dX6_copy_12 : decode cX6_copy 12 = .ok (.iload_n 2, 1) := by decide +kernel
theorem dX6_copy_13 : decode cX6_copy 13 = .ok (.aload_n 1, 1) := by decide +kernel
theorem dX6_copy_14 : decode cX6_copy 14 = .ok (.getfield 9, 3) := by decide +kernel
theorem dX6_copy_17 : decode cX6_copy 17 = .ok (.iload_n 2, 1) := by decide +kernel
theorem dX6_copy_18 : decode cX6_copy 18 = .ok (.invokestatic 43, 3) := by decide +kernel
theorem dX6_copy_21 : decode cX6_copy 21 = .ok (.invokestatic 47, 3) := by decide +kernel
theorem dX6_copy_24 : decode cX6_copy 24 = .ok (.aload_n 0, 1) := by decide +kernel
theorem dX6_copy_25 : decode cX6_copy 25 = .ok (.getfield 15, 3) := by decide +kernel
theorem dX6_copy_28 : decode cX6_copy 28 = .ok (.iload_n 2, 1) := by decide +kernel
theorem dX6_copy_29 : decode cX6_copy 29 = .ok (.aload_n 1, 1) := by decide +kernel
theorem dX6_copy_30 : decode cX6_copy 30 = .ok (.getfield 15, 3) := by decide +kernel
theorem dX6_copy_33 : decode cX6_copy 33 = .ok (.iload_n 2, 1) := by decide +kernel
theorem dX6_copy_34 : decode cX6_copy 34 = .ok (.invokestatic 43, 3) := by decide +kernel
theorem dX6_copy_37 : decode cX6_copy 37 = .ok (.invokestatic 47, 3) := by decide +kernel
theorem dX6_copy_40 : decode cX6_copy 40 = .ok (.aload_n 0, 1) := by decide +kernel
theorem dX6_copy_41 : decode cX6_copy 41 = .ok (.getfield 18, 3) := by decide +kernel
theorem dX6_copy_44 : decode cX6_copy 44 = .ok (.iload_n 2, 1) := by decide +kernel
theorem dX6_copy_45 : decode cX6_copy 45 = .ok (.aload_n 1, 1) := by decide +kernel
theorem dX6_copy_46 : decode cX6_copy 46 = .ok (.getfield 18, 3) := by decide +kernel
theorem dX6_copy_49 : decode cX6_copy 49 = .ok (.iload_n 2, 1) := by decide +kernel
theorem dX6_copy_50 : decode cX6_copy 50 = .ok (.invokestatic 43, 3) := by decide +kernel
theorem dX6_copy_53 : decode cX6_copy 53 = .ok (.invokestatic 47, 3) := by decide +kernel
theorem dX6_copy_56 : decode cX6_copy 56 = .ok (.iinc 2 1, 3) := by decide +kernel
theorem dX6_copy_59 : decode cX6_copy 59 = .ok (.goto (-57), 3) := by decide +kernel
theorem dX6_copy_62 : decode cX6_copy 62 = .ok (.iconst 0, 1) := by decide +kernel
theorem dX6_copy_63 : decode cX6_copy 63 = .ok (.istore_n 2, 1) := by decide +kernel
theorem dX6_copy_64 : decode cX6_copy 64 = .ok (.iload_n 2, 1) := by decide +kernel
theorem dX6_copy_65 : decode cX6_copy 65 = .ok (.bipush 8, 2) := by decide +kernel
theorem dX6_copy_67 : decode cX6_copy 67 = .ok (.if_icmp .ge 41, 3) := by decide +kernel
theorem dX6_copy_70 : decode cX6_copy 70 = .ok (.aload_n 0, 1) := by decide +kernel
theorem dX6_copy_71 : decode cX6_copy 71 = .ok (.getfield 21, 3) := by decide +kernel
theorem dX6_copy_74 : decode cX6_copy 74 = .ok (.iload_n 2, 1) := by decide +kernel
theorem dX6_copy_75 : decode cX6_copy 75 = .ok (.aload_n 1, 1) := by decide +kernel
theorem dX6_copy_76 : decode cX6_copy 76 = .ok (.getfield 21, 3) := by decide +kernel
theorem dX6_copy_79 : decode cX6_copy 79 = .ok (.iload_n 2, 1) := by decide +kernel
theorem dX6_copy_80 : decode cX6_copy 80 = .ok (.invokestatic 43, 3) := by decide +kernel
theorem dX6_copy_83 : decode cX6_copy 83 = .ok (.invokestatic 47, 3) := by decide +kernel
theorem dX6_copy_86 : decode cX6_copy 86 = .ok (.aload_n 0, 1) := by decide +kernel
theorem dX6_copy_87 : decode cX6_copy 87 = .ok (.getfield 24, 3) := by decide +kernel
theorem dX6_copy_90 : decode cX6_copy 90 = .ok (.iload_n 2, 1) := by decide +kernel
theorem dX6_copy_91 : decode cX6_copy 91 = .ok (.aload_n 1, 1) := by decide +kernel
theorem dX6_copy_92 : decode cX6_copy 92 = .ok (.getfield 24, 3) := by decide +kernel
theorem dX6_copy_95 : decode cX6_copy 95 = .ok (.iload_n 2, 1) := by decide +kernel
theorem dX6_copy_96 : decode cX6_copy 96 = .ok (.invokestatic 43, 3) := by decide +kernel
theorem dX6_copy_99 : decode cX6_copy 99 = .ok (.invokestatic 47, 3) := by decide +kernel
theorem dX6_copy_102 : decode cX6_copy 102 = .ok (.iinc 2 1, 3) := by decide +kernel
theorem dX6_copy_105 : decode cX6_copy 105 = .ok (.goto (-41), 3) := by decide +kernel
theorem dX6_copy_108 : decode cX6_copy 108 = .ok (.aload_n 0, 1) := by decide +kernel
theorem dX6_copy_109 : decode cX6_copy 109 = .ok (.aload_n 1, 1) := by decide +kernel
theorem dX6_copy_110 : decode cX6_copy 110 = .ok (.getfield 27, 3) := by decide +kernel
theorem dX6_copy_113 : decode cX6_copy 113 = .ok (.putfield 27, 3) := by decide +kernel
theorem dX6_copy_116 : decode cX6_copy 116 = .ok (.aload_n 0, 1) := by decide +kernel
theorem dX6_copy_117 : decode cX6_copy 117 = .ok (.aload_n 1, 1) := by decide +kernel
theorem dX6_copy_118 : decode cX6_copy 118 = .ok (.getfield 31, 3) := by decide +kernel
theorem dX6_copy_121 : decode cX6_copy 121 = .ok (.putfield 31, 3) := by decide +kernel
theorem dX6_copy_124 : decode cX6_copy 124 = .ok (.aload_n 0, 1) := by decide +kernel
theorem dX6_copy_125 : decode cX6_copy 125 = .ok (.aload_n 1, 1) := by decide +kernel
theorem dX6_copy_126 : decode cX6_copy 126 = .ok (.getfield 34, 3) := by decide +kernel
theorem dX6_copy_129 : decode cX6_copy 129 = .ok (.putfield 34, 3) := by decide +kernel
theorem dX6_copy_132 : decode cX6_copy 132 = .ok (.aload_n 0, 1) := by decide +kernel
theorem dX6_copy_133 : decode cX6_copy 133 = .ok (.aload_n 1, 1) := by decide +kernel
theorem dX6_copy_134 : decode cX6_copy 134 = .ok (.getfield 37, 3) := by decide +kernel
theorem dX6_copy_137 : decode cX6_copy 137 = .ok (.putfield 37, 3) := by decide +kernel
theorem dX6_copy_140 : decode cX6_copy 140 = .ok (.aload_n 0, 1) := by decide +kernel
theorem dX6_copy_141 : decode cX6_copy 141 = .ok (.aload_n 1, 1) := by decide +kernel
theorem dX6_copy_142 : decode cX6_copy 142 = .ok (.getfield 40, 3) := by decide +kernel
theorem dX6_copy_145 : decode cX6_copy 145 = .ok (.putfield 40, 3) := by decide +kernel
theorem dX6_copy_148 : decode cX6_copy 148 = .ok (.return_, 1) := by decide +kernel
set_option maxRecDepth 20000 in
theorem ggX6_isTold_X9_within : GoodIn wsX6_isTold wsX9_within := goodIn_r _ [4] (by decide +kernel) (by decide +kernel)
set_option maxRecDepth 20000 in
theorem gX6_isTold_X9_within_n51 : GoodIn wsX6_isTold (wsX9_within) := ggX6_isTold_X9_within
set_option maxRecDepth 20000 in
theorem ggX6_isTold_X9_has : GoodIn wsX6_isTold wsX9_has := goodIn_r _ [6, 7, 2, 3, 4] (by decide +kernel) (by decide +kernel)
set_option maxRecDepth 20000 in
theorem gX6_isTold_X9_has_n55 : GoodIn wsX6_isTold (wsX9_has) := ggX6_isTold_X9_has
theorem dX6_isTold_0 : decode cX6_isTold 0 = .ok (.iload_n 1, 1) := by decide +kernel
theorem dX6_isTold_1 : decode cX6_isTold 1 = .ok (.iconst 0, 1) := by decide +kernel
theorem dX6_isTold_2 : decode cX6_isTold 2 = .ok (.bipush 7, 2) := by decide +kernel
theorem dX6_isTold_4 : decode cX6_isTold 4 = .ok (.invokestatic 51, 3) := by decide +kernel
theorem dX6_isTold_7 : decode cX6_isTold 7 = .ok (.ifCond .eq 18, 3) := by decide +kernel
theorem dX6_isTold_10 : decode cX6_isTold 10 = .ok (.aload_n 0, 1) := by decide +kernel
theorem dX6_isTold_11 : decode cX6_isTold 11 = .ok (.getfield 27, 3) := by decide +kernel
theorem dX6_isTold_14 : decode cX6_isTold 14 = .ok (.iload_n 1, 1) := by decide +kernel
theorem dX6_isTold_15 : decode cX6_isTold 15 = .ok (.invokestatic 55, 3) := by decide +kernel
theorem dX6_isTold_18 : decode cX6_isTold 18 = .ok (.ifCond .eq 7, 3) := by decide +kernel
theorem dX6_isTold_21 : decode cX6_isTold 21 = .ok (.iconst 1, 1) := by decide +kernel
theorem dX6_isTold_22 : decode cX6_isTold 22 = .ok (.goto 4, 3) := by decide +kernel
theorem dX6_isTold_25 : decode cX6_isTold 25 = .ok (.iconst 0, 1) := by decide +kernel
theorem dX6_isTold_26 : decode cX6_isTold 26 = .ok (.ireturn, 1) := by decide +kernel
set_option maxRecDepth 20000 in
theorem ggX6_standAt_X6_isTold : GoodIn wsX6_standAt wsX6_isTold := goodIn_r _ [6, 7, 8, 9, 10, 11, 12, 13, 16, 17, 18, 19, 20, 21, 22, 23, 24, 25] (by decide +kernel) (by decide +kernel)
set_option maxRecDepth 20000 in
theorem gX6_standAt_X6_isTold : GoodIn wsX6_standAt (wsV RX6 59 RX6 yX6_isTold wsX6_isTold) := goodIn_app (goodIn_of _ (by decide +kernel)) ggX6_standAt_X6_isTold
set_option maxRecDepth 20000 in
theorem ggX6_standAt_X9_at : GoodIn wsX6_standAt wsX9_at := goodIn_r _ [15] (by decide +kernel) (by decide +kernel)
set_option maxRecDepth 20000 in
theorem gX6_standAt_X9_at_n43 : GoodIn wsX6_standAt (wsX9_at) := ggX6_standAt_X9_at
theorem dX6_standAt_0 : decode cX6_standAt 0 = .ok (.iconst 0, 1) := by decide +kernel
theorem dX6_standAt_1 : decode cX6_standAt 1 = .ok (.istore_n 2, 1) := by decide +kernel
theorem dX6_standAt_2 : decode cX6_standAt 2 = .ok (.iconst 0, 1) := by decide +kernel
theorem dX6_standAt_3 : decode cX6_standAt 3 = .ok (.istore_n 3, 1) := by decide +kernel
theorem dX6_standAt_4 : decode cX6_standAt 4 = .ok (.iload_n 3, 1) := by decide +kernel
theorem dX6_standAt_5 : decode cX6_standAt 5 = .ok (.bipush 8, 2) := by decide +kernel
theorem dX6_standAt_7 : decode cX6_standAt 7 = .ok (.if_icmp .ge 35, 3) := by decide +kernel
theorem dX6_standAt_10 : decode cX6_standAt 10 = .ok (.aload_n 0, 1) := by decide +kernel
theorem dX6_standAt_11 : decode cX6_standAt 11 = .ok (.iload_n 3, 1) := by decide +kernel
theorem dX6_standAt_12 : decode cX6_standAt 12 = .ok (.invokevirtual 59, 3) := by decide +kernel
theorem dX6_standAt_15 : decode cX6_standAt 15 = .ok (.ifCond .eq 21, 3) := by decide +kernel
theorem dX6_standAt_18 : decode cX6_standAt 18 = .ok (.aload_n 0, 1) := by decide +kernel
theorem dX6_standAt_19 : decode cX6_standAt 19 = .ok (.getfield 21, 3) := by decide +kernel
theorem dX6_standAt_22 : decode cX6_standAt 22 = .ok (.iload_n 3, 1) := by decide +kernel
theorem dX6_standAt_23 : decode cX6_standAt 23 = .ok (.invokestatic 43, 3) := by decide +kernel
theorem dX6_standAt_26 : decode cX6_standAt 26 = .ok (.iload_n 1, 1) := by decide +kernel
theorem dX6_standAt_27 : decode cX6_standAt 27 = .ok (.if_icmp .ne 9, 3) := by decide +kernel
theorem dX6_standAt_30 : decode cX6_standAt 30 = .ok (.iload_n 2, 1) := by decide +kernel
theorem dX6_standAt_31 : decode cX6_standAt 31 = .ok (.iconst 1, 1) := by decide +kernel
theorem dX6_standAt_32 : decode cX6_standAt 32 = .ok (.iload_n 3, 1) := by decide +kernel
theorem dX6_standAt_33 : decode cX6_standAt 33 = .ok (.ishl, 1) := by decide +kernel
theorem dX6_standAt_34 : decode cX6_standAt 34 = .ok (.ior, 1) := by decide +kernel
theorem dX6_standAt_35 : decode cX6_standAt 35 = .ok (.istore_n 2, 1) := by decide +kernel
theorem dX6_standAt_36 : decode cX6_standAt 36 = .ok (.iinc 3 1, 3) := by decide +kernel
theorem dX6_standAt_39 : decode cX6_standAt 39 = .ok (.goto (-35), 3) := by decide +kernel
theorem dX6_standAt_42 : decode cX6_standAt 42 = .ok (.iload_n 2, 1) := by decide +kernel
theorem dX6_standAt_43 : decode cX6_standAt 43 = .ok (.ireturn, 1) := by decide +kernel
set_option maxRecDepth 20000 in
theorem ggX6_stoodAt_X6_isTold : GoodIn wsX6_stoodAt wsX6_isTold := goodIn_r _ [6, 7, 8, 9, 10, 11, 12, 13, 16, 17, 18, 19, 20, 21, 22, 23, 24, 25] (by decide +kernel) (by decide +kernel)
set_option maxRecDepth 20000 in
theorem gX6_stoodAt_X6_isTold : GoodIn wsX6_stoodAt (wsV RX6 59 RX6 yX6_isTold wsX6_isTold) := goodIn_app (goodIn_of _ (by decide +kernel)) ggX6_stoodAt_X6_isTold
set_option maxRecDepth 20000 in
theorem ggX6_stoodAt_X9_at : GoodIn wsX6_stoodAt wsX9_at := goodIn_r _ [15] (by decide +kernel) (by decide +kernel)
set_option maxRecDepth 20000 in
theorem gX6_stoodAt_X9_at_n43 : GoodIn wsX6_stoodAt (wsX9_at) := ggX6_stoodAt_X9_at
theorem dX6_stoodAt_0 : decode cX6_stoodAt 0 = .ok (.iconst 0, 1) := by decide +kernel
theorem dX6_stoodAt_1 : decode cX6_stoodAt 1 = .ok (.istore_n 1, 1) := by decide +kernel
theorem dX6_stoodAt_2 : decode cX6_stoodAt 2 = .ok (.iconst 0, 1) := by decide +kernel
theorem dX6_stoodAt_3 : decode cX6_stoodAt 3 = .ok (.istore_n 2, 1) := by decide +kernel
theorem dX6_stoodAt_4 : decode cX6_stoodAt 4 = .ok (.iload_n 2, 1) := by decide +kernel
theorem dX6_stoodAt_5 : decode cX6_stoodAt 5 = .ok (.bipush 8, 2) := by decide +kernel
theorem dX6_stoodAt_7 : decode cX6_stoodAt 7 = .ok (.if_icmp .ge 30, 3) := by decide +kernel
theorem dX6_stoodAt_10 : decode cX6_stoodAt 10 = .ok (.aload_n 0, 1) := by decide +kernel
theorem dX6_stoodAt_11 : decode cX6_stoodAt 11 = .ok (.iload_n 2, 1) := by decide +kernel
theorem dX6_stoodAt_12 : decode cX6_stoodAt 12 = .ok (.invokevirtual 59, 3) := by decide +kernel
theorem dX6_stoodAt_15 : decode cX6_stoodAt 15 = .ok (.ifCond .eq 16, 3) := by decide +kernel
theorem dX6_stoodAt_18 : decode cX6_stoodAt 18 = .ok (.iload_n 1, 1) := by decide +kernel
theorem dX6_stoodAt_19 : decode cX6_stoodAt 19 = .ok (.iconst 1, 1) := by decide +kernel
theorem dX6_stoodAt_20 : decode cX6_stoodAt 20 = .ok (.aload_n 0, 1) := by decide +kernel
theorem dX6_stoodAt_21 : decode cX6_stoodAt 21 = .ok (.getfield 21, 3) := by decide +kernel
theorem dX6_stoodAt_24 : decode cX6_stoodAt 24 = .ok (.iload_n 2, 1) := by decide +kernel
theorem dX6_stoodAt_25 : decode cX6_stoodAt 25 = .ok (.invokestatic 43, 3) := by decide +kernel
theorem dX6_stoodAt_28 : decode cX6_stoodAt 28 = .ok (.ishl, 1) := by decide +kernel
theorem dX6_stoodAt_29 : decode cX6_stoodAt 29 = .ok (.ior, 1) := by decide +kernel
theorem dX6_stoodAt_30 : decode cX6_stoodAt 30 = .ok (.istore_n 1, 1) := by decide +kernel
theorem dX6_stoodAt_31 : decode cX6_stoodAt 31 = .ok (.iinc 2 1, 3) := by decide +kernel
theorem dX6_stoodAt_34 : decode cX6_stoodAt 34 = .ok (.goto (-30), 3) := by decide +kernel
theorem dX6_stoodAt_37 : decode cX6_stoodAt 37 = .ok (.iload_n 1, 1) := by decide +kernel
theorem dX6_stoodAt_38 : decode cX6_stoodAt 38 = .ok (.ireturn, 1) := by decide +kernel
set_option maxRecDepth 20000 in
theorem ggX6_wages_X9_sumOf : GoodIn wsX6_wages wsX9_sumOf := goodIn_r _ [5, 6, 7, 4, 8, 9, 10, 11] (by decide +kernel) (by decide +kernel)
set_option maxRecDepth 20000 in
theorem gX6_wages_X9_sumOf_n63 : GoodIn wsX6_wages (wsX9_sumOf) := ggX6_wages_X9_sumOf
theorem dX6_wages_0 : decode cX6_wages 0 = .ok (.aload_n 0, 1) := by decide +kernel
theorem dX6_wages_1 : decode cX6_wages 1 = .ok (.getfield 24, 3) := by decide +kernel
theorem dX6_wages_4 : decode cX6_wages 4 = .ok (.aload_n 0, 1) := by decide +kernel
theorem dX6_wages_5 : decode cX6_wages 5 = .ok (.getfield 27, 3) := by decide +kernel
theorem dX6_wages_8 : decode cX6_wages 8 = .ok (.invokestatic 63, 3) := by decide +kernel
theorem dX6_wages_11 : decode cX6_wages 11 = .ok (.ireturn, 1) := by decide +kernel
theorem dX6_draw_0 : decode cX6_draw 0 = .ok (.aload_n 0, 1) := by decide +kernel
theorem dX6_draw_1 : decode cX6_draw 1 = .ok (.sipush 25173, 3) := by decide +kernel
theorem dX6_draw_4 : decode cX6_draw 4 = .ok (.aload_n 0, 1) := by decide +kernel
theorem dX6_draw_5 : decode cX6_draw 5 = .ok (.getfield 40, 3) := by decide +kernel
theorem dX6_draw_8 : decode cX6_draw 8 = .ok (.imul, 1) := by decide +kernel
theorem dX6_draw_9 : decode cX6_draw 9 = .ok (.sipush 13849, 3) := by decide +kernel
theorem dX6_draw_12 : decode cX6_draw 12 = .ok (.iadd, 1) := by decide +kernel
theorem dX6_draw_13 : decode cX6_draw 13 = .ok (.ldc 66, 2) := by decide +kernel
theorem dX6_draw_15 : decode cX6_draw 15 = .ok (.iand, 1) := by decide +kernel
theorem dX6_draw_16 : decode cX6_draw 16 = .ok (.putfield 40, 3) := by decide +kernel
theorem dX6_draw_19 : decode cX6_draw 19 = .ok (.aload_n 0, 1) := by decide +kernel
theorem dX6_draw_20 : decode cX6_draw 20 = .ok (.getfield 40, 3) := by decide +kernel
theorem dX6_draw_23 : decode cX6_draw 23 = .ok (.bipush 10, 2) := by decide +kernel
theorem dX6_draw_25 : decode cX6_draw 25 = .ok (.irem, 1) := by decide +kernel
theorem dX6_draw_26 : decode cX6_draw 26 = .ok (.ireturn, 1) := by decide +kernel
theorem dX7_init_0 : decode cX7_init 0 = .ok (.aload_n 0, 1) := by decide +kernel
theorem dX7_init_1 : decode cX7_init 1 = .ok (.invokespecial 3, 3) := by decide +kernel
theorem dX7_init_4 : decode cX7_init 4 = .ok (.aload_n 0, 1) := by decide +kernel
theorem dX7_init_5 : decode cX7_init 5 = .ok (.sipush 260, 3) := by decide +kernel
theorem dX7_init_8 : decode cX7_init 8 = .ok (.newarray .int, 2) := by decide +kernel
theorem dX7_init_10 : decode cX7_init 10 = .ok (.putfield 11, 3) := by decide +kernel
theorem dX7_init_13 : decode cX7_init 13 = .ok (.aload_n 0, 1) := by decide +kernel
theorem dX7_init_14 : decode cX7_init 14 = .ok (.iconst 0, 1) := by decide +kernel
theorem dX7_init_15 : decode cX7_init 15 = .ok (.putfield 15, 3) := by decide +kernel
theorem dX7_init_18 : decode cX7_init 18 = .ok (.aload_n 0, 1) := by decide +kernel
theorem dX7_init_19 : decode cX7_init 19 = .ok (.iconst 0, 1) := by decide +kernel
theorem dX7_init_20 : decode cX7_init 20 = .ok (.putfield 19, 3) := by decide +kernel
theorem dX7_init_23 : decode cX7_init 23 = .ok (.aload_n 0, 1) := by decide +kernel
theorem dX7_init_24 : decode cX7_init 24 = .ok (.iconst 0, 1) := by decide +kernel
theorem dX7_init_25 : decode cX7_init 25 = .ok (.putfield 22, 3) := by decide +kernel
theorem dX7_init_28 : decode cX7_init 28 = .ok (.aload_n 0, 1) := by decide +kernel
theorem dX7_init_29 : decode cX7_init 29 = .ok (.iconst 0, 1) := by decide +kernel
theorem dX7_init_30 : decode cX7_init 30 = .ok (.putfield 25, 3) := by decide +kernel
theorem dX7_init_33 : decode cX7_init 33 = .ok (.aload_n 0, 1) := by decide +kernel
theorem dX7_init_34 : decode cX7_init 34 = .ok (.iconst 0, 1) := by decide +kernel
theorem dX7_init_35 : decode cX7_init 35 = .ok (.putfield 28, 3) := by decide +kernel
theorem dX7_init_38 : decode cX7_init 38 = .ok (.return_, 1) := by decide +kernel
set_option maxRecDepth 20000 in
theorem ggX7_append_X9_put : GoodIn wsX7_append wsX9_put := goodIn_r _ [5] (by decide +kernel) (by decide +kernel)
set_option maxRecDepth 20000 in
theorem gX7_append_X9_put_n31 : GoodIn wsX7_append (wsX9_put) := ggX7_append_X9_put
theorem dX7_append_0 : decode cX7_append 0 = .ok (.bipush 24, 2) := by decide +kernel
theorem dX7_append_2 : decode cX7_append 2 = .ok (.istore_n 2, 1) := by decide +kernel
theorem dX7_append_3 : decode cX7_append 3 = .ok (.iload_n 2, 1) := by decide +kernel
theorem dX7_append_4 : decode cX7_append 4 = .ok (.ifCond .lt 37, 3) := by decide +kernel
theorem dX7_append_7 : decode cX7_append 7 = .ok (.aload_n 0, 1) := by decide +kernel
theorem dX7_append_8 : decode cX7_append 8 = .ok (.getfield 11, 3) := by decide +kernel
theorem dX7_append_11 : decode cX7_append 11 = .ok (.aload_n 0, 1) := by decide +kernel
theorem dX7_append_12 : decode cX7_append 12 = .ok (.getfield 15, 3) := by decide +kernel
theorem dX7_append_15 : decode cX7_append 15 = .ok (.iload_n 1, 1) := by decide +kernel
theorem dX7_append_16 : decode cX7_append 16 = .ok (.iload_n 2, 1) := by decide +kernel
theorem dX7_append_17 : decode cX7_append 17 = .ok (.iushr, 1) := by decide +kernel
theorem dX7_append_18 : decode cX7_append 18 = .ok (.sipush 255, 3) := by decide +kernel
theorem dX7_append_21 : decode cX7_append 21 = .ok (.iand, 1) := by decide +kernel
theorem dX7_append_22 : decode cX7_append 22 = .ok (.invokestatic 31, 3) := by decide +kernel
theorem dX7_append_25 : decode cX7_append 25 = .ok (.aload_n 0, 1) := by decide +kernel
theorem dX7_append_26 : decode cX7_append 26 = .ok (.dup, 1) := by decide +kernel
theorem dX7_append_27 : decode cX7_append 27 = .ok (.getfield 15, 3) := by decide +kernel
theorem dX7_append_30 : decode cX7_append 30 = .ok (.iconst 1, 1) := by decide +kernel
theorem dX7_append_31 : decode cX7_append 31 = .ok (.iadd, 1) := by decide +kernel
theorem dX7_append_32 : decode cX7_append 32 = .ok (.putfield 15, 3) := by decide +kernel
theorem dX7_append_35 : decode cX7_append 35 = .ok (.iinc 2 (-8), 3) := by decide +kernel
theorem dX7_append_38 : decode cX7_append 38 = .ok (.goto (-35), 3) := by decide +kernel
theorem dX7_append_41 : decode cX7_append 41 = .ok (.return_, 1) := by decide +kernel
theorem dX7_holds_0 : decode cX7_holds 0 = .ok (.iload_n 1, 1) := by decide +kernel
theorem dX7_holds_1 : decode cX7_holds 1 = .ok (.aload_n 0, 1) := by decide +kernel
theorem dX7_holds_2 : decode cX7_holds 2 = .ok (.getfield 15, 3) := by decide +kernel
theorem dX7_holds_5 : decode cX7_holds 5 = .ok (.if_icmp .gt 7, 3) := by decide +kernel
theorem dX7_holds_8 : decode cX7_holds 8 = .ok (.iconst 1, 1) := by decide +kernel
theorem dX7_holds_9 : decode cX7_holds 9 = .ok (.goto 4, 3) := by decide +kernel
theorem dX7_holds_12 : decode cX7_holds 12 = .ok (.iconst 0, 1) := by decide +kernel
theorem dX7_holds_13 : decode cX7_holds 13 = .ok (.ireturn, 1) := by decide +kernel
theorem dX7_open_0 : decode cX7_open 0 = .ok (.aload_n 0, 1) := by decide +kernel
theorem dX7_open_1 : decode cX7_open 1 = .ok (.iconst 0, 1) := by decide +kernel
theorem dX7_open_2 : decode cX7_open 2 = .ok (.putfield 15, 3) := by decide +kernel
theorem dX7_open_5 : decode cX7_open 5 = .ok (.aload_n 0, 1) := by decide +kernel
theorem dX7_open_6 : decode cX7_open 6 = .ok (.iload_n 1, 1) := by decide +kernel
theorem dX7_open_7 : decode cX7_open 7 = .ok (.putfield 19, 3) := by decide +kernel
theorem dX7_open_10 : decode cX7_open 10 = .ok (.aload_n 0, 1) := by decide +kernel
theorem dX7_open_11 : decode cX7_open 11 = .ok (.iconst 0, 1) := by decide +kernel
theorem dX7_open_12 : decode cX7_open 12 = .ok (.putfield 22, 3) := by decide +kernel
theorem dX7_open_15 : decode cX7_open 15 = .ok (.aload_n 0, 1) := by decide +kernel
theorem dX7_open_16 : decode cX7_open 16 = .ok (.iconst 0, 1) := by decide +kernel
theorem dX7_open_17 : decode cX7_open 17 = .ok (.putfield 25, 3) := by decide +kernel
theorem dX7_open_20 : decode cX7_open 20 = .ok (.aload_n 0, 1) := by decide +kernel
theorem dX7_open_21 : decode cX7_open 21 = .ok (.iconst 0, 1) := by decide +kernel
theorem dX7_open_22 : decode cX7_open 22 = .ok (.putfield 28, 3) := by decide +kernel
theorem dX7_open_25 : decode cX7_open 25 = .ok (.return_, 1) := by decide +kernel
set_option maxRecDepth 20000 in
theorem ggX7_byteAt_X9_at : GoodIn wsX7_byteAt wsX9_at := goodIn_r _ [5] (by decide +kernel) (by decide +kernel)
set_option maxRecDepth 20000 in
theorem gX7_byteAt_X9_at_n35 : GoodIn wsX7_byteAt (wsX9_at) := ggX7_byteAt_X9_at
theorem dX7_byteAt_0 : decode cX7_byteAt 0 = .ok (.iload_n 1, 1) := by decide +kernel
theorem dX7_byteAt_1 : decode cX7_byteAt 1 = .ok (.aload_n 0, 1) := by decide +kernel
theorem dX7_byteAt_2 : decode cX7_byteAt 2 = .ok (.getfield 19, 3) := by decide +kernel
theorem dX7_byteAt_5 : decode cX7_byteAt 5 = .ok (.if_icmp .ge 14, 3) := by decide +kernel
theorem dX7_byteAt_8 : decode cX7_byteAt 8 = .ok (.aload_n 0, 1) := by decide +kernel
theorem dX7_byteAt_9 : decode cX7_byteAt 9 = .ok (.getfield 11, 3) := by decide +kernel
theorem dX7_byteAt_12 : decode cX7_byteAt 12 = .ok (.iload_n 1, 1) := by decide +kernel
theorem dX7_byteAt_13 : decode cX7_byteAt 13 = .ok (.invokestatic 35, 3) := by decide +kernel
theorem dX7_byteAt_16 : decode cX7_byteAt 16 = .ok (.goto 4, 3) := by decide +kernel
theorem dX7_byteAt_19 : decode cX7_byteAt 19 = .ok (.iconst 0, 1) := by decide +kernel
theorem dX7_byteAt_20 : decode cX7_byteAt 20 = .ok (.ireturn, 1) := by decide +kernel
set_option maxRecDepth 20000 in
theorem ggX7_look_X9_at : GoodIn wsX7_look wsX9_at := goodIn_r _ [6] (by decide +kernel) (by decide +kernel)
set_option maxRecDepth 20000 in
theorem gX7_look_X9_at_n35 : GoodIn wsX7_look (wsX9_at) := ggX7_look_X9_at
theorem dX7_look_0 : decode cX7_look 0 = .ok (.aload_n 0, 1) := by decide +kernel
theorem dX7_look_1 : decode cX7_look 1 = .ok (.getfield 22, 3) := by decide +kernel
theorem dX7_look_4 : decode cX7_look 4 = .ok (.aload_n 0, 1) := by decide +kernel
theorem dX7_look_5 : decode cX7_look 5 = .ok (.getfield 19, 3) := by decide +kernel
theorem dX7_look_8 : decode cX7_look 8 = .ok (.if_icmp .ge 17, 3) := by decide +kernel
theorem dX7_look_11 : decode cX7_look 11 = .ok (.aload_n 0, 1) := by decide +kernel
theorem dX7_look_12 : decode cX7_look 12 = .ok (.getfield 11, 3) := by decide +kernel
theorem dX7_look_15 : decode cX7_look 15 = .ok (.aload_n 0, 1) := by decide +kernel
theorem dX7_look_16 : decode cX7_look 16 = .ok (.getfield 22, 3) := by decide +kernel
theorem dX7_look_19 : decode cX7_look 19 = .ok (.invokestatic 35, 3) := by decide +kernel
theorem dX7_look_22 : decode cX7_look 22 = .ok (.goto 4, 3) := by decide +kernel
theorem dX7_look_25 : decode cX7_look 25 = .ok (.iconst (-1), 1) := by decide +kernel
theorem dX7_look_26 : decode cX7_look 26 = .ok (.ireturn, 1) := by decide +kernel
theorem dX7_reader_0 : decode cX7_reader 0 = .ok (.aload_n 0, 1) := by decide +kernel
theorem dX7_reader_1 : decode cX7_reader 1 = .ok (.getfield 22, 3) := by decide +kernel
theorem dX7_reader_4 : decode cX7_reader 4 = .ok (.ireturn, 1) := by decide +kernel
theorem dX7_step_0 : decode cX7_step 0 = .ok (.aload_n 0, 1) := by decide +kernel
theorem dX7_step_1 : decode cX7_step 1 = .ok (.dup, 1) := by decide +kernel
theorem dX7_step_2 : decode cX7_step 2 = .ok (.getfield 22, 3) := by decide +kernel
theorem dX7_step_5 : decode cX7_step 5 = .ok (.iconst 1, 1) := by decide +kernel
theorem dX7_step_6 : decode cX7_step 6 = .ok (.iadd, 1) := by decide +kernel
theorem dX7_step_7 : decode cX7_step 7 = .ok (.putfield 22, 3) := by decide +kernel
theorem dX7_step_10 : decode cX7_step 10 = .ok (.return_, 1) := by decide +kernel
set_option maxRecDepth 20000 in
theorem ggX7_take_X7_look : GoodIn wsX7_take wsX7_look := goodIn_r _ [5, 6, 7, 8, 9, 10, 11, 26, 27, 28, 29, 30, 31] (by decide +kernel) (by decide +kernel)
set_option maxRecDepth 20000 in
theorem gX7_take_X7_look : GoodIn wsX7_take (wsV RX7 39 RX7 yX7_look wsX7_look) := goodIn_app (goodIn_of _ (by decide +kernel)) ggX7_take_X7_look
set_option maxRecDepth 20000 in
theorem ggX7_take_X7_fail : GoodIn wsX7_take wsX7_fail := goodIn_r _ [15, 6, 16, 17, 18, 4, 19, 20, 21, 26, 27, 28, 29, 30, 31] (by decide +kernel) (by decide +kernel)
set_option maxRecDepth 20000 in
theorem gX7_take_X7_fail : GoodIn wsX7_take (wsV RX7 43 RX7 yX7_fail wsX7_fail) := goodIn_app (goodIn_of _ (by decide +kernel)) ggX7_take_X7_fail
set_option maxRecDepth 20000 in
theorem ggX7_take_X7_step : GoodIn wsX7_take wsX7_step := goodIn_r _ [25, 6, 26, 27, 28, 29, 30, 31] (by decide +kernel) (by decide +kernel)
set_option maxRecDepth 20000 in
theorem gX7_take_X7_step : GoodIn wsX7_take (wsV RX7 47 RX7 yX7_step wsX7_step) := goodIn_app (goodIn_of _ (by decide +kernel)) ggX7_take_X7_step
theorem dX7_take_0 : decode cX7_take 0 = .ok (.aload_n 0, 1) := by decide +kernel
theorem dX7_take_1 : decode cX7_take 1 = .ok (.invokevirtual 39, 3) := by decide +kernel
theorem dX7_take_4 : decode cX7_take 4 = .ok (.iload_n 1, 1) := by decide +kernel
theorem dX7_take_5 : decode cX7_take 5 = .ok (.if_icmp .eq 10, 3) := by decide +kernel
theorem dX7_take_8 : decode cX7_take 8 = .ok (.aload_n 0, 1) := by decide +kernel
theorem dX7_take_9 : decode cX7_take 9 = .ok (.iconst 1, 1) := by decide +kernel
theorem dX7_take_10 : decode cX7_take 10 = .ok (.invokevirtual 43, 3) := by decide +kernel
theorem dX7_take_13 : decode cX7_take 13 = .ok (.iconst 0, 1) := by decide +kernel
theorem dX7_take_14 : decode cX7_take 14 = .ok (.ireturn, 1) := by decide +kernel
theorem dX7_take_15 : decode cX7_take 15 = .ok (.aload_n 0, 1) := by decide +kernel
theorem dX7_take_16 : decode cX7_take 16 = .ok (.invokevirtual 47, 3) := by decide +kernel
theorem dX7_take_19 : decode cX7_take 19 = .ok (.iconst 1, 1) := by decide +kernel
theorem dX7_take_20 : decode cX7_take 20 = .ok (.ireturn, 1) := by decide +kernel
set_option maxRecDepth 20000 in
theorem ggX7_number_X7_look : GoodIn wsX7_number wsX7_look := goodIn_r _ [5, 6, 7, 8, 9, 10, 11, 31, 32, 33, 34, 35, 36] (by decide +kernel) (by decide +kernel)
set_option maxRecDepth 20000 in
theorem gX7_number_X7_look : GoodIn wsX7_number (wsV RX7 39 RX7 yX7_look wsX7_look) := goodIn_app (goodIn_of _ (by decide +kernel)) ggX7_number_X7_look
set_option maxRecDepth 20000 in
theorem ggX7_number_X7_isDigit : GoodIn wsX7_number wsX7_isDigit := goodIn_r _ [14, 15, 10, 16] (by decide +kernel) (by decide +kernel)
set_option maxRecDepth 20000 in
theorem gX7_number_X7_isDigit : GoodIn wsX7_number (va_wsS RX7 50 yX7_isDigit wsX7_isDigit) := goodIn_app (goodIn_of _ (by decide +kernel)) ggX7_number_X7_isDigit
set_option maxRecDepth 20000 in
theorem ggX7_number_X7_fail : GoodIn wsX7_number wsX7_fail := goodIn_r _ [20, 6, 21, 22, 23, 4, 24, 25, 26, 31, 32, 33, 34, 35, 36] (by decide +kernel) (by decide +kernel)
set_option maxRecDepth 20000 in
theorem gX7_number_X7_fail : GoodIn wsX7_number (wsV RX7 43 RX7 yX7_fail wsX7_fail) := goodIn_app (goodIn_of _ (by decide +kernel)) ggX7_number_X7_fail
set_option maxRecDepth 20000 in
theorem ggX7_number_X7_step : GoodIn wsX7_number wsX7_step := goodIn_r _ [30, 6, 31, 32, 33, 34, 35, 36] (by decide +kernel) (by decide +kernel)
set_option maxRecDepth 20000 in
theorem gX7_number_X7_step : GoodIn wsX7_number (wsV RX7 47 RX7 yX7_step wsX7_step) := goodIn_app (goodIn_of _ (by decide +kernel)) ggX7_number_X7_step
theorem dX7_number_0 : decode cX7_number 0 = .ok (.iconst 0, 1) := by decide +kernel
theorem dX7_number_1 : decode cX7_number 1 = .ok (.istore_n 2, 1) := by decide +kernel
theorem dX7_number_2 : decode cX7_number 2 = .ok (.iconst 0, 1) := by decide +kernel
theorem dX7_number_3 : decode cX7_number 3 = .ok (.istore_n 3, 1) := by decide +kernel
theorem dX7_number_4 : decode cX7_number 4 = .ok (.iload_n 3, 1) := by decide +kernel
theorem dX7_number_5 : decode cX7_number 5 = .ok (.iload_n 1, 1) := by decide +kernel
theorem dX7_number_6 : decode cX7_number 6 = .ok (.if_icmp .gt 48, 3) := by decide +kernel
theorem dX7_number_9 : decode cX7_number 9 = .ok (.aload_n 0, 1) := by decide +kernel
theorem dX7_number_10 : decode cX7_number 10 = .ok (.invokevirtual 39, 3) := by decide +kernel
theorem dX7_number_13 : decode cX7_number 13 = .ok (.invokestatic 50, 3) := by decide +kernel
theorem dX7_number_16 : decode cX7_number 16 = .ok (.ifCond .eq 38, 3) := by decide +kernel
theorem dX7_number_19 : decode cX7_number 19 = .ok (.iload_n 3, 1) := by decide +kernel
theorem dX7_number_20 : decode cX7_number 20 = .ok (.iload_n 1, 1) := by decide +kernel
theorem dX7_number_21 : decode cX7_number 21 = .ok (.if_icmp .ne 10, 3) := by decide +kernel
theorem dX7_number_24 : decode cX7_number 24 = .ok (.aload_n 0, 1) := by decide +kernel
theorem dX7_number_25 : decode cX7_number 25 = .ok (.iconst 2, 1) := by decide +kernel
theorem dX7_number_26 : decode cX7_number 26 = .ok (.invokevirtual 43, 3) := by decide +kernel
theorem dX7_number_29 : decode cX7_number 29 = .ok (.iconst 0, 1) := by decide +kernel
theorem dX7_number_30 : decode cX7_number 30 = .ok (.ireturn, 1) := by decide +kernel
theorem dX7_number_31 : decode cX7_number 31 = .ok (.iload_n 2, 1) := by decide +kernel
theorem dX7_number_32 : decode cX7_number 32 = .ok (.bipush 10, 2) := by decide +kernel
theorem dX7_number_34 : decode cX7_number 34 = .ok (.imul, 1) := by decide +kernel
theorem dX7_number_35 : decode cX7_number 35 = .ok (.aload_n 0, 1) := by decide +kernel
theorem dX7_number_36 : decode cX7_number 36 = .ok (.invokevirtual 39, 3) := by decide +kernel
theorem dX7_number_39 : decode cX7_number 39 = .ok (.iadd, 1) := by decide +kernel
theorem dX7_number_40 : decode cX7_number 40 = .ok (.bipush 48, 2) := by decide +kernel
theorem dX7_number_42 : decode cX7_number 42 = .ok (.isub, 1) := by decide +kernel
theorem dX7_number_43 : decode cX7_number 43 = .ok (.istore_n 2, 1) := by decide +kernel
theorem dX7_number_44 : decode cX7_number 44 = .ok (.iinc 3 1, 3) := by decide +kernel
theorem dX7_number_47 : decode cX7_number 47 = .ok (.aload_n 0, 1) := by decide +kernel
theorem dX7_number_48 : decode cX7_number 48 = .ok (.invokevirtual 47, 3) := by decide +kernel
theorem dX7_number_51 : decode cX7_number 51 = .ok (.goto (-47), 3) := by decide +kernel
theorem dX7_number_54 : decode cX7_number 54 = .ok (.iload_n 3, 1) := by decide +kernel
theorem dX7_number_55 : decode cX7_number 55 = .ok (.ifCond .ne 8, 3) := by decide +kernel
theorem dX7_number_58 : decode cX7_number 58 = .ok (.aload_n 0, 1) := by decide +kernel
theorem dX7_number_59 : decode cX7_number 59 = .ok (.iconst 1, 1) := by decide +kernel
theorem dX7_number_60 : decode cX7_number 60 = .ok (.invokevirtual 43, 3) := by decide +kernel
theorem dX7_number_63 : decode cX7_number 63 = .ok (.iload_n 2, 1) := by decide +kernel
theorem dX7_number_64 : decode cX7_number 64 = .ok (.ireturn, 1) := by decide +kernel
set_option maxRecDepth 20000 in
theorem ggX7_goesOn_X7_isFine : GoodIn wsX7_goesOn wsX7_isFine := goodIn_r _ [5, 6, 34, 35, 36, 37, 38, 39] (by decide +kernel) (by decide +kernel)
set_option maxRecDepth 20000 in
theorem gX7_goesOn_X7_isFine : GoodIn wsX7_goesOn (wsV RX7 54 RX7 yX7_isFine wsX7_isFine) := goodIn_app (goodIn_of _ (by decide +kernel)) ggX7_goesOn_X7_isFine
set_option maxRecDepth 20000 in
theorem ggX7_goesOn_X7_look : GoodIn wsX7_goesOn wsX7_look := goodIn_r _ [10, 11, 12, 13, 14, 15, 16, 34, 35, 36, 37, 38, 39] (by decide +kernel) (by decide +kernel)
set_option maxRecDepth 20000 in
theorem gX7_goesOn_X7_look : GoodIn wsX7_goesOn (wsV RX7 39 RX7 yX7_look wsX7_look) := goodIn_app (goodIn_of _ (by decide +kernel)) ggX7_goesOn_X7_look
set_option maxRecDepth 20000 in
theorem ggX7_goesOn_X7_take : GoodIn wsX7_goesOn wsX7_take := goodIn_r _ [20, 7, 8, 9, 4, 10, 11, 12, 13, 14, 15, 16, 21, 22, 23, 24, 25, 26, 27, 28, 6, 29, 30, 31, 32, 33, 34, 35, 36, 37, 38, 39] (by decide +kernel) (by decide +kernel)
set_option maxRecDepth 20000 in
theorem gX7_goesOn_X7_take : GoodIn wsX7_goesOn (wsV RX7 58 RX7 yX7_take wsX7_take) := goodIn_app (goodIn_of _ (by decide +kernel)) ggX7_goesOn_X7_take
theorem dX7_goesOn_0 : decode cX7_goesOn 0 = .ok (.aload_n 0, 1) := by decide +kernel
theorem dX7_goesOn_1 : decode cX7_goesOn 1 = .ok (.invokevirtual 54, 3) := by decide +kernel
theorem dX7_goesOn_4 : decode cX7_goesOn 4 = .ok (.ifCond .eq 11, 3) := by decide +kernel
theorem dX7_goesOn_7 : decode cX7_goesOn 7 = .ok (.aload_n 0, 1) := by decide +kernel
theorem dX7_goesOn_8 : decode cX7_goesOn 8 = .ok (.invokevirtual 39, 3) := by decide +kernel
theorem dX7_goesOn_11 : decode cX7_goesOn 11 = .ok (.iconst (-1), 1) := by decide +kernel
theorem dX7_goesOn_12 : decode cX7_goesOn 12 = .ok (.if_icmp .ne 5, 3) := by decide +kernel
theorem dX7_goesOn_15 : decode cX7_goesOn 15 = .ok (.iconst 0, 1) := by decide +kernel
theorem dX7_goesOn_16 : decode cX7_goesOn 16 = .ok (.ireturn, 1) := by decide +kernel
theorem dX7_goesOn_17 : decode cX7_goesOn 17 = .ok (.aload_n 0, 1) := by decide +kernel
theorem dX7_goesOn_18 : decode cX7_goesOn 18 = .ok (.bipush 59, 2) := by decide +kernel
theorem dX7_goesOn_20 : decode cX7_goesOn 20 = .ok (.invokevirtual 58, 3) := by decide +kernel
theorem dX7_goesOn_23 : decode cX7_goesOn 23 = .ok (.ireturn, 1) := by decide +kernel
theorem dX7_isFine_0 : decode cX7_isFine 0 = .ok (.aload_n 0, 1) := by decide +kernel
theorem dX7_isFine_1 : decode cX7_isFine 1 = .ok (.getfield 25, 3) := by decide +kernel
theorem dX7_isFine_4 : decode cX7_isFine 4 = .ok (.ifCond .ne 7, 3) := by decide +kernel
theorem dX7_isFine_7 : decode cX7_isFine 7 = .ok (.iconst 1, 1) := by decide +kernel
theorem dX7_isFine_8 : decode cX7_isFine 8 = .ok (.goto 4, 3) := by decide +kernel
theorem dX7_isFine_11 : decode cX7_isFine 11 = .ok (.iconst 0, 1) := by decide +kernel
theorem dX7_isFine_12 : decode cX7_isFine 12 = .ok (.ireturn, 1) := by decide +kernel
set_option maxRecDepth 20000 in
theorem ggX7_fail_X7_failAt : GoodIn wsX7_fail wsX7_failAt := goodIn_r _ [6, 7, 8, 9, 10, 11, 12, 13, 14] (by decide +kernel) (by decide +kernel)
set_option maxRecDepth 20000 in
theorem gX7_fail_X7_failAt : GoodIn wsX7_fail (wsV RX7 61 RX7 yX7_failAt wsX7_failAt) := goodIn_app (goodIn_of _ (by decide +kernel)) ggX7_fail_X7_failAt
theorem dX7_fail_0 : decode cX7_fail 0 = .ok (.aload_n 0, 1) := by decide +kernel
theorem dX7_fail_1 : decode cX7_fail 1 = .ok (.iload_n 1, 1) := by decide +kernel
theorem dX7_fail_2 : decode cX7_fail 2 = .ok (.aload_n 0, 1) := by decide +kernel
theorem dX7_fail_3 : decode cX7_fail 3 = .ok (.getfield 22, 3) := by decide +kernel
theorem dX7_fail_6 : decode cX7_fail 6 = .ok (.invokevirtual 61, 3) := by decide +kernel
theorem dX7_fail_9 : decode cX7_fail 9 = .ok (.return_, 1) := by decide +kernel
theorem dX7_failAt_0 : decode cX7_failAt 0 = .ok (.aload_n 0, 1) := by decide +kernel
theorem dX7_failAt_1 : decode cX7_failAt 1 = .ok (.getfield 25, 3) := by decide +kernel
theorem dX7_failAt_4 : decode cX7_failAt 4 = .ok (.ifCond .ne 13, 3) := by decide +kernel
theorem dX7_failAt_7 : decode cX7_failAt 7 = .ok (.aload_n 0, 1) := by decide +kernel
theorem dX7_failAt_8 : decode cX7_failAt 8 = .ok (.iload_n 1, 1) := by decide +kernel
theorem dX7_failAt_9 : decode cX7_failAt 9 = .ok (.putfield 25, 3) := by decide +kernel
theorem dX7_failAt_12 : decode cX7_failAt 12 = .ok (.aload_n 0, 1) := by decide +kernel
theorem dX7_failAt_13 : decode cX7_failAt 13 = .ok (.iload_n 2, 1) := by decide +kernel
theorem dX7_failAt_14 : decode cX7_failAt 14 = .ok (.putfield 28, 3) := by decide +kernel
theorem dX7_failAt_17 : decode cX7_failAt 17 = .ok (.return_, 1) := by decide +kernel
theorem dX7_answer_0 : decode cX7_answer 0 = .ok (.aload_n 0, 1) := by decide +kernel
theorem dX7_answer_1 : decode cX7_answer 1 = .ok (.getfield 25, 3) := by decide +kernel
theorem dX7_answer_4 : decode cX7_answer 4 = .ok (.ifCond .ne 7, 3) := by decide +kernel
theorem dX7_answer_7 : decode cX7_answer 7 = .ok (.iload_n 1, 1) := by decide +kernel
theorem dX7_answer_8 : decode cX7_answer 8 = .ok (.goto 16, 3) := by decide +kernel
theorem dX7_answer_11 : decode cX7_answer 11 = .ok (.sipush (-1000), 3) := by decide +kernel
theorem dX7_answer_14 : decode cX7_answer 14 = .ok (.aload_n 0, 1) := by decide +kernel
theorem dX7_answer_15 : decode cX7_answer 15 = .ok (.getfield 25, 3) := by decide +kernel
theorem dX7_answer_18 : decode cX7_answer 18 = .ok (.imul, 1) := by decide +kernel
theorem dX7_answer_19 : decode cX7_answer 19 = .ok (.aload_n 0, 1) := by decide +kernel
theorem dX7_answer_20 : decode cX7_answer 20 = .ok (.getfield 28, 3) := by decide +kernel
theorem dX7_answer_23 : decode cX7_answer 23 = .ok (.isub, 1) := by decide +kernel
theorem dX7_answer_24 : decode cX7_answer 24 = .ok (.ireturn, 1) := by decide +kernel
set_option maxRecDepth 20000 in
theorem ggX7_isDigit_X9_within : GoodIn wsX7_isDigit wsX9_within := goodIn_r _ [3] (by decide +kernel) (by decide +kernel)
set_option maxRecDepth 20000 in
theorem gX7_isDigit_X9_within_n65 : GoodIn wsX7_isDigit (wsX9_within) := ggX7_isDigit_X9_within
theorem dX7_isDigit_0 : decode cX7_isDigit 0 = .ok (.iload_n 0, 1) := by decide +kernel
theorem dX7_isDigit_1 : decode cX7_isDigit 1 = .ok (.bipush 48, 2) := by decide +kernel
theorem dX7_isDigit_3 : decode cX7_isDigit 3 = .ok (.bipush 57, 2) := by decide +kernel
theorem dX7_isDigit_5 : decode cX7_isDigit 5 = .ok (.invokestatic 65, 3) := by decide +kernel
theorem dX7_isDigit_8 : decode cX7_isDigit 8 = .ok (.ireturn, 1) := by decide +kernel
set_option maxRecDepth 20000 in
theorem ggX7_placeOf_X9_within : GoodIn wsX7_placeOf wsX9_within := goodIn_r _ [3] (by decide +kernel) (by decide +kernel)
set_option maxRecDepth 20000 in
theorem gX7_placeOf_X9_within_n65 : GoodIn wsX7_placeOf (wsX9_within) := ggX7_placeOf_X9_within
theorem dX7_placeOf_0 : decode cX7_placeOf 0 = .ok (.iload_n 0, 1) := by decide +kernel
theorem dX7_placeOf_1 : decode cX7_placeOf 1 = .ok (.bipush 97, 2) := by decide +kernel
theorem dX7_placeOf_3 : decode cX7_placeOf 3 = .ok (.bipush 112, 2) := by decide +kernel
theorem dX7_placeOf_5 : decode cX7_placeOf 5 = .ok (.invokestatic 65, 3) := by decide +kernel
theorem dX7_placeOf_8 : decode cX7_placeOf 8 = .ok (.ifCond .eq 10, 3) := by decide +kernel
theorem dX7_placeOf_11 : decode cX7_placeOf 11 = .ok (.iload_n 0, 1) := by decide +kernel
theorem dX7_placeOf_12 : decode cX7_placeOf 12 = .ok (.bipush 97, 2) := by decide +kernel
theorem dX7_placeOf_14 : decode cX7_placeOf 14 = .ok (.isub, 1) := by decide +kernel
theorem dX7_placeOf_15 : decode cX7_placeOf 15 = .ok (.goto 4, 3) := by decide +kernel
theorem dX7_placeOf_18 : decode cX7_placeOf 18 = .ok (.iconst (-1), 1) := by decide +kernel
theorem dX7_placeOf_19 : decode cX7_placeOf 19 = .ok (.ireturn, 1) := by decide +kernel
theorem dX8_init_0 : decode cX8_init 0 = .ok (.aload_n 0, 1) := by decide +kernel
theorem dX8_init_1 : decode cX8_init 1 = .ok (.invokespecial 3, 3) := by decide +kernel
theorem dX8_init_4 : decode cX8_init 4 = .ok (.aload_n 0, 1) := by decide +kernel
theorem dX8_init_5 : decode cX8_init 5 = .ok (.ldc 9, 2) := by decide +kernel
theorem dX8_init_7 : decode cX8_init 7 = .ok (.newarray .int, 2) := by decide +kernel
theorem dX8_init_9 : decode cX8_init 9 = .ok (.putfield 10, 3) := by decide +kernel
theorem dX8_init_12 : decode cX8_init 12 = .ok (.aload_n 0, 1) := by decide +kernel
theorem dX8_init_13 : decode cX8_init 13 = .ok (.sipush 16384, 3) := by decide +kernel
theorem dX8_init_16 : decode cX8_init 16 = .ok (.newarray .int, 2) := by decide +kernel
theorem dX8_init_18 : decode cX8_init 18 = .ok (.putfield 16, 3) := by decide +kernel
theorem dX8_init_21 : decode cX8_init 21 = .ok (.aload_n 0, 1) := by decide +kernel
theorem dX8_init_22 : decode cX8_init 22 = .ok (.iconst 0, 1) := by decide +kernel
theorem dX8_init_23 : decode cX8_init 23 = .ok (.putfield 19, 3) := by decide +kernel
theorem dX8_init_26 : decode cX8_init 26 = .ok (.return_, 1) := by decide +kernel
set_option maxRecDepth 20000 in
theorem ggX8_best_X8_add : GoodIn wsX8_best wsX8_add := goodIn_r _ [8, 3, 2, 1, 9, 10, 11, 12, 13, 42, 43, 44] (by decide +kernel) (by decide +kernel)
set_option maxRecDepth 20000 in
theorem gX8_best_X8_add : GoodIn wsX8_best (wsV RX8 23 RX8 yX8_add wsX8_add) := goodIn_app (goodIn_of _ (by decide +kernel)) ggX8_best_X8_add
set_option maxRecDepth 20000 in
theorem ggX8_best_X8_settle : GoodIn wsX8_best wsX8_settle := goodIn_r _ [17, 1, 2, 3, 18, 9, 10, 11, 12, 13, 42, 43, 44] (by decide +kernel) (by decide +kernel)
set_option maxRecDepth 20000 in
theorem gX8_best_X8_settle : GoodIn wsX8_best (wsV RX8 27 RX8 yX8_settle wsX8_settle) := goodIn_app (goodIn_of _ (by decide +kernel)) ggX8_best_X8_settle
set_option maxRecDepth 20000 in
theorem ggX8_best_X8_goOn : GoodIn wsX8_best wsX8_goOn := goodIn_r _ [22, 1, 2, 3, 18, 9, 10, 11, 23, 24, 25, 26, 27, 28, 29, 30, 31, 32, 33, 34, 35, 36, 37, 4, 5, 6, 7, 8, 12, 13, 42, 43, 44, 45, 46, 47, 48] (by decide +kernel) (by decide +kernel)
set_option maxRecDepth 20000 in
theorem gX8_best_X8_goOn : GoodIn wsX8_best (wsV RX8 30 RX8 yX8_goOn wsX8_goOn) := goodIn_app (goodIn_of _ (by decide +kernel)) ggX8_best_X8_goOn
set_option maxRecDepth 20000 in
theorem ggX8_best_X9_at : GoodIn wsX8_best wsX9_at := goodIn_r _ [11] (by decide +kernel) (by decide +kernel)
set_option maxRecDepth 20000 in
theorem gX8_best_X9_at_n34 : GoodIn wsX8_best (wsX9_at) := ggX8_best_X9_at
set_option maxRecDepth 20000 in
theorem ggX8_best_X1_around : GoodIn wsX8_best wsX1_around := goodIn_r _ [36, 37, 9, 10, 11, 45, 46, 47, 48] (by decide +kernel) (by decide +kernel)
set_option maxRecDepth 20000 in
theorem gX8_best_X1_around : GoodIn wsX8_best (wsV RX8 38 RX1 yX1_around wsX1_around) := goodIn_app (goodIn_of _ (by decide +kernel)) ggX8_best_X1_around
set_option maxRecDepth 20000 in
theorem ggX8_best_X9_sumOf : GoodIn wsX8_best wsX9_sumOf := goodIn_r _ [40, 41, 28, 10, 29, 30, 31, 32] (by decide +kernel) (by decide +kernel)
set_option maxRecDepth 20000 in
theorem gX8_best_X9_sumOf_n44 : GoodIn wsX8_best (wsX9_sumOf) := ggX8_best_X9_sumOf
set_option maxRecDepth 20000 in
theorem ggX8_best_X9_put : GoodIn wsX8_best wsX9_put := goodIn_r _ [13] (by decide +kernel) (by decide +kernel)
set_option maxRecDepth 20000 in
theorem gX8_best_X9_put_n47 : GoodIn wsX8_best (wsX9_put) := ggX8_best_X9_put
theorem dX8_best_0 : decode cX8_best 0 = .ok (.aload_n 0, 1) := by decide +kernel
theorem dX8_best_1 : decode cX8_best 1 = .ok (.iconst 0, 1) := by decide +kernel
theorem dX8_best_2 : decode cX8_best 2 = .ok (.putfield 19, 3) := by decide +kernel
theorem dX8_best_5 : decode cX8_best 5 = .ok (.aload_n 0, 1) := by decide +kernel
theorem dX8_best_6 : decode cX8_best 6 = .ok (.iconst 1, 1) := by decide +kernel
theorem dX8_best_7 : decode cX8_best 7 = .ok (.iload_n 1, 1) := by decide +kernel
theorem dX8_best_8 : decode cX8_best 8 = .ok (.ishl, 1) := by decide +kernel
theorem dX8_best_9 : decode cX8_best 9 = .ok (.iconst 1, 1) := by decide +kernel
theorem dX8_best_10 : decode cX8_best 10 = .ok (.iload_n 1, 1) := by decide +kernel
theorem dX8_best_11 : decode cX8_best 11 = .ok (.ishl, 1) := by decide +kernel
theorem dX8_best_12 : decode cX8_best 12 = .ok (.invokevirtual 23, 3) := by decide +kernel
theorem dX8_best_15 : decode cX8_best 15 = .ok (.aload_n 0, 1) := by decide +kernel
theorem dX8_best_16 : decode cX8_best 16 = .ok (.invokevirtual 27, 3) := by decide +kernel
theorem dX8_best_19 : decode cX8_best 19 = .ok (.iconst 1, 1) := by decide +kernel
theorem dX8_best_20 : decode cX8_best 20 = .ok (.istore 5, 2) := by decide +kernel
theorem dX8_best_22 : decode cX8_best 22 = .ok (.iload 5, 2) := by decide +kernel
theorem dX8_best_24 : decode cX8_best 24 = .ok (.iload_n 2, 1) := by decide +kernel
theorem dX8_best_25 : decode cX8_best 25 = .ok (.if_icmp .ge 26, 3) := by decide +kernel
theorem dX8_best_28 : decode cX8_best 28 = .ok (.iload 5, 2) := by decide +kernel
theorem dX8_best_30 : decode cX8_best 30 = .ok (.bipush 8, 2) := by decide +kernel
theorem dX8_best_32 : decode cX8_best 32 = .ok (.if_icmp .ge 19, 3) := by decide +kernel
theorem dX8_best_35 : decode cX8_best 35 = .ok (.aload_n 0, 1) := by decide +kernel
theorem dX8_best_36 : decode cX8_best 36 = .ok (.aload 4, 2) := by decide +kernel
theorem dX8_best_38 : decode cX8_best 38 = .ok (.invokevirtual 30, 3) := by decide +kernel
theorem dX8_best_41 : decode cX8_best 41 = .ok (.aload_n 0, 1) := by decide +kernel
theorem dX8_best_42 : decode cX8_best 42 = .ok (.invokevirtual 27, 3) := by decide +kernel
theorem dX8_best_45 : decode cX8_best 45 = .ok (.iinc 5 1, 3) := by decide +kernel
theorem dX8_best_48 : decode cX8_best 48 = .ok (.goto (-26), 3) := by decide +kernel
theorem dX8_best_51 : decode cX8_best 51 = .ok (.iconst (-1), 1) := by decide +kernel
theorem dX8_best_52 : decode cX8_best 52 = .ok (.istore 5, 2) := by decide +kernel
theorem dX8_best_54 : decode cX8_best 54 = .ok (.iconst (-1), 1) := by decide +kernel
theorem dX8_best_55 : decode cX8_best 55 = .ok (.istore 6, 2) := by decide +kernel
theorem dX8_best_57 : decode cX8_best 57 = .ok (.iconst 0, 1) := by decide +kernel
theorem dX8_best_58 : decode cX8_best 58 = .ok (.istore 7, 2) := by decide +kernel
theorem dX8_best_60 : decode cX8_best 60 = .ok (.iload 7, 2) := by decide +kernel
theorem dX8_best_62 : decode cX8_best 62 = .ok (.aload_n 0, 1) := by decide +kernel
theorem dX8_best_63 : decode cX8_best 63 = .ok (.getfield 19, 3) := by decide +kernel
theorem dX8_best_66 : decode cX8_best 66 = .ok (.if_icmp .ge 107, 3) := by decide +kernel
theorem dX8_best_69 : decode cX8_best 69 = .ok (.aload_n 0, 1) := by decide +kernel
theorem dX8_best_70 : decode cX8_best 70 = .ok (.getfield 16, 3) := by decide +kernel
theorem dX8_best_73 : decode cX8_best 73 = .ok (.iload 7, 2) := by decide +kernel
theorem dX8_best_75 : decode cX8_best 75 = .ok (.invokestatic 34, 3) := by decide +kernel
theorem dX8_best_78 : decode cX8_best 78 = .ok (.istore 8, 2) := by decide +kernel
theorem dX8_best_80 : decode cX8_best 80 = .ok (.aload_n 0, 1) := by decide +kernel
theorem dX8_best_81 : decode cX8_best 81 = .ok (.getfield 10, 3) := by decide +kernel
theorem dX8_best_84 : decode cX8_best 84 = .ok (.iload 8, 2) := by decide +kernel
theorem dX8_best_86 : decode cX8_best 86 = .ok (.invokestatic 34, 3) := by decide +kernel
theorem dX8_best_89 : decode cX8_best 89 = .ok (.aload 4, 2) := by decide +kernel
theorem dX8_best_91 : decode cX8_best 91 = .ok (.iload_n 1, 1) := by decide +kernel
theorem dX8_best_92 : decode cX8_best 92 = .ok (.invokevirtual 38, 3) := by decide +kernel
theorem dX8_best_95 : decode cX8_best 95 = .ok (.iand, 1) := by decide +kernel
theorem dX8_best_96 : decode cX8_best 96 = .ok (.ifCond .eq 7, 3) := by decide +kernel
theorem dX8_best_99 : decode cX8_best 99 = .ok (.iconst 1, 1) := by decide +kernel
theorem dX8_best_100 : decode cX8_best 100 = .ok (.goto 4, 3) := by decide +kernel
theorem dX8_best_103 : decode cX8_best 103 = .ok (.iconst 0, 1) := by decide +kernel
theorem dX8_best_104 : decode cX8_best 104 = .ok (.istore 9, 2) := by decide +kernel
theorem dX8_best_106 : decode cX8_best 106 = .ok (.iload 9, 2) := by decide +kernel
theorem dX8_best_108 : decode cX8_best 108 = .ok (.ifCond .eq 12, 3) := by decide +kernel
theorem dX8_best_111 : decode cX8_best 111 = .ok (.aload_n 3, 1) := by decide +kernel
theorem dX8_best_112 : decode cX8_best 112 = .ok (.iload 8, 2) := by decide +kernel
theorem dX8_best_114 : decode cX8_best 114 = .ok (.invokestatic 44, 3) := by decide +kernel
theorem dX8_best_117 : decode cX8_best 117 = .ok (.goto 4, 3) := by decide +kernel
theorem dX8_best_120 : decode cX8_best 120 = .ok (.iconst (-1), 1) := by decide +kernel
theorem dX8_best_121 : decode cX8_best 121 = .ok (.istore 10, 2) := by decide +kernel
theorem dX8_best_123 : decode cX8_best 123 = .ok (.iload 9, 2) := by decide +kernel
theorem dX8_best_125 : decode cX8_best 125 = .ok (.ifCond .eq 32, 3) := by decide +kernel
theorem dX8_best_128 : decode cX8_best 128 = .ok (.iload 10, 2) := by decide +kernel
theorem dX8_best_130 : decode cX8_best 130 = .ok (.iload 6, 2) := by decide +kernel
theorem dX8_best_132 : decode cX8_best 132 = .ok (.if_icmp .gt 17, 3) := by decide +kernel
theorem dX8_best_135 : decode cX8_best 135 = .ok (.iload 10, 2) := by decide +kernel
theorem dX8_best_137 : decode cX8_best 137 = .ok (.iload 6, 2) := by decide +kernel
theorem dX8_best_139 : decode cX8_best 139 = .ok (.if_icmp .ne 18, 3) := by decide +kernel
theorem dX8_best_142 : decode cX8_best 142 = .ok (.iload 8, 2) := by decide +kernel
theorem dX8_best_144 : decode cX8_best 144 = .ok (.iload 5, 2) := by decide +kernel
theorem dX8_best_146 : decode cX8_best 146 = .ok (.if_icmp .ge 11, 3) := by decide +kernel
theorem dX8_best_149 : decode cX8_best 149 = .ok (.iload 8, 2) := by decide +kernel
theorem dX8_best_151 : decode cX8_best 151 = .ok (.istore 5, 2) := by decide +kernel
theorem dX8_best_153 : decode cX8_best 153 = .ok (.iload 10, 2) := by decide +kernel
theorem dX8_best_155 : decode cX8_best 155 = .ok (.istore 6, 2) := by decide +kernel
theorem dX8_best_157 : decode cX8_best 157 = .ok (.aload_n 0, 1) := by decide +kernel
theorem dX8_best_158 : decode cX8_best 158 = .ok (.getfield 10, 3) := by decide +kernel
theorem dX8_best_161 : decode cX8_best 161 = .ok (.iload 8, 2) := by decide +kernel
theorem dX8_best_163 : decode cX8_best 163 = .ok (.iconst 0, 1) := by decide +kernel
theorem dX8_best_164 : decode cX8_best 164 = .ok (.invokestatic 47, 3) := by decide +kernel
theorem dX8_best_167 : decode cX8_best 167 = .ok (.iinc 7 1, 3) := by decide +kernel
theorem dX8_best_170 : decode cX8_best 170 = .ok (.goto (-110), 3) := by decide +kernel
theorem dX8_best_173 : decode cX8_best 173 = .ok (.iload 5, 2) := by decide +kernel
theorem dX8_best_175 : decode cX8_best 175 = .ok (.ireturn, 1) := by decide +kernel
set_option maxRecDepth 20000 in
theorem ggX8_goOn_X9_at : GoodIn wsX8_goOn wsX9_at := goodIn_r _ [7] (by decide +kernel) (by decide +kernel)
set_option maxRecDepth 20000 in
theorem gX8_goOn_X9_at_n34 : GoodIn wsX8_goOn (wsX9_at) := ggX8_goOn_X9_at
set_option maxRecDepth 20000 in
theorem ggX8_goOn_X1_aroundAny : GoodIn wsX8_goOn wsX1_aroundAny := goodIn_r _ [12, 13, 6, 14, 15, 16, 17, 18, 19, 20, 11, 21, 22, 5, 7, 33, 34, 35, 36] (by decide +kernel) (by decide +kernel)
set_option maxRecDepth 20000 in
theorem gX8_goOn_X1_aroundAny : GoodIn wsX8_goOn (wsV RX8 52 RX1 yX1_aroundAny wsX1_aroundAny) := goodIn_app (goodIn_of _ (by decide +kernel)) ggX8_goOn_X1_aroundAny
set_option maxRecDepth 20000 in
theorem ggX8_goOn_X9_has : GoodIn wsX8_goOn wsX9_has := goodIn_r _ [14, 15, 16, 6, 17] (by decide +kernel) (by decide +kernel)
set_option maxRecDepth 20000 in
theorem gX8_goOn_X9_has_n55 : GoodIn wsX8_goOn (wsX9_has) := ggX8_goOn_X9_has
set_option maxRecDepth 20000 in
theorem ggX8_goOn_X8_add : GoodIn wsX8_goOn wsX8_add := goodIn_r _ [27, 3, 2, 1, 5, 6, 7, 28, 29, 30, 31, 32] (by decide +kernel) (by decide +kernel)
set_option maxRecDepth 20000 in
theorem gX8_goOn_X8_add : GoodIn wsX8_goOn (wsV RX8 23 RX8 yX8_add wsX8_add) := goodIn_app (goodIn_of _ (by decide +kernel)) ggX8_goOn_X8_add
theorem dX8_goOn_0 : decode cX8_goOn 0 = .ok (.aload_n 0, 1) := by decide +kernel
theorem dX8_goOn_1 : decode cX8_goOn 1 = .ok (.getfield 19, 3) := by decide +kernel
theorem dX8_goOn_4 : decode cX8_goOn 4 = .ok (.istore_n 2, 1) := by decide +kernel
theorem dX8_goOn_5 : decode cX8_goOn 5 = .ok (.iconst 0, 1) := by decide +kernel
theorem dX8_goOn_6 : decode cX8_goOn 6 = .ok (.istore_n 3, 1) := by decide +kernel
theorem dX8_goOn_7 : decode cX8_goOn 7 = .ok (.iload_n 3, 1) := by decide +kernel
theorem dX8_goOn_8 : decode cX8_goOn 8 = .ok (.iload_n 2, 1) := by decide +kernel
theorem dX8_goOn_9 : decode cX8_goOn 9 = .ok (.if_icmp .ge 78, 3) := by decide +kernel
theorem dX8_goOn_12 : decode cX8_goOn 12 = .ok (.aload_n 0, 1) := by decide +kernel
theorem dX8_goOn_13 : decode cX8_goOn 13 = .ok (.getfield 16, 3) := by decide +kernel
theorem dX8_goOn_16 : decode cX8_goOn 16 = .ok (.iload_n 3, 1) := by decide +kernel
theorem dX8_goOn_17 : decode cX8_goOn 17 = .ok (.invokestatic 34, 3) := by decide +kernel
theorem dX8_goOn_20 : decode cX8_goOn 20 = .ok (.istore 4, 2) := by decide +kernel
theorem dX8_goOn_22 : decode cX8_goOn 22 = .ok (.aload_n 1, 1) := by decide +kernel
theorem dX8_goOn_23 : decode cX8_goOn 23 = .ok (.aload_n 0, 1) := by decide +kernel
theorem dX8_goOn_24 : decode cX8_goOn 24 = .ok (.getfield 10, 3) := by decide +kernel
theorem dX8_goOn_27 : decode cX8_goOn 27 = .ok (.iload 4, 2) := by decide +kernel
theorem dX8_goOn_29 : decode cX8_goOn 29 = .ok (.invokestatic 34, 3) := by decide +kernel
theorem dX8_goOn_32 : decode cX8_goOn 32 = .ok (.ldc 51, 2) := by decide +kernel
theorem dX8_goOn_34 : decode cX8_goOn 34 = .ok (.iand, 1) := by decide +kernel
theorem dX8_goOn_35 : decode cX8_goOn 35 = .ok (.invokevirtual 52, 3) := by decide +kernel
theorem dX8_goOn_38 : decode cX8_goOn 38 = .ok (.istore 5, 2) := by decide +kernel
theorem dX8_goOn_40 : decode cX8_goOn 40 = .ok (.iconst 0, 1) := by decide +kernel
theorem dX8_goOn_41 : decode cX8_goOn 41 = .ok (.istore 6, 2) := by decide +kernel
theorem dX8_goOn_43 : decode cX8_goOn 43 = .ok (.iload 6, 2) := by decide +kernel
theorem dX8_goOn_45 : decode cX8_goOn 45 = .ok (.bipush 16, 2) := by decide +kernel
theorem dX8_goOn_47 : decode cX8_goOn 47 = .ok (.if_icmp .ge 34, 3) := by decide +kernel
theorem dX8_goOn_50 : decode cX8_goOn 50 = .ok (.iload 5, 2) := by decide +kernel
theorem dX8_goOn_52 : decode cX8_goOn 52 = .ok (.iload 6, 2) := by decide +kernel
theorem dX8_goOn_54 : decode cX8_goOn 54 = .ok (.invokestatic 55, 3) := by decide +kernel
theorem dX8_goOn_57 : decode cX8_goOn 57 = .ok (.ifCond .eq 18, 3) := by decide +kernel
theorem dX8_goOn_60 : decode cX8_goOn 60 = .ok (.aload_n 0, 1) := by decide +kernel
theorem dX8_goOn_61 : decode cX8_goOn 61 = .ok (.iload 4, 2) := by decide +kernel
theorem dX8_goOn_63 : decode cX8_goOn 63 = .ok (.iconst 1, 1) := by decide +kernel
theorem dX8_goOn_64 : decode cX8_goOn 64 = .ok (.iload 6, 2) := by decide +kernel
theorem dX8_goOn_66 : decode cX8_goOn 66 = .ok (.ishl, 1) := by decide +kernel
theorem dX8_goOn_67 : decode cX8_goOn 67 = .ok (.ior, 1) := by decide +kernel
theorem dX8_goOn_68 : decode cX8_goOn 68 = .ok (.iconst 1, 1) := by decide +kernel
theorem dX8_goOn_69 : decode cX8_goOn 69 = .ok (.iload 6, 2) := by decide +kernel
theorem dX8_goOn_71 : decode cX8_goOn 71 = .ok (.ishl, 1) := by decide +kernel
theorem dX8_goOn_72 : decode cX8_goOn 72 = .ok (.invokevirtual 23, 3) := by decide +kernel
theorem dX8_goOn_75 : decode cX8_goOn 75 = .ok (.iinc 6 1, 3) := by decide +kernel
theorem dX8_goOn_78 : decode cX8_goOn 78 = .ok (.goto (-35), 3) := by decide +kernel
theorem dX8_goOn_81 : decode cX8_goOn 81 = .ok (.iinc 3 1, 3) := by decide +kernel
theorem dX8_goOn_84 : decode cX8_goOn 84 = .ok (.goto (-77), 3) := by decide +kernel
theorem dX8_goOn_87 : decode cX8_goOn 87 = .ok (.return_, 1) := by decide +kernel
set_option maxRecDepth 20000 in
theorem ggX8_add_X9_at : GoodIn wsX8_add wsX9_at := goodIn_r _ [6] (by decide +kernel) (by decide +kernel)
set_option maxRecDepth 20000 in
theorem gX8_add_X9_at_n34 : GoodIn wsX8_add (wsX9_at) := ggX8_add_X9_at
set_option maxRecDepth 20000 in
theorem ggX8_add_X9_put : GoodIn wsX8_add wsX9_put := goodIn_r _ [8] (by decide +kernel) (by decide +kernel)
set_option maxRecDepth 20000 in
theorem gX8_add_X9_put_n47 : GoodIn wsX8_add (wsX9_put) := ggX8_add_X9_put
theorem dX8_add_0 : decode cX8_add 0 = .ok (.aload_n 0, 1) := by decide +kernel
theorem dX8_add_1 : decode cX8_add 1 = .ok (.getfield 10, 3) := by decide +kernel
theorem dX8_add_4 : decode cX8_add 4 = .ok (.iload_n 1, 1) := by decide +kernel
theorem dX8_add_5 : decode cX8_add 5 = .ok (.invokestatic 34, 3) := by decide +kernel
theorem dX8_add_8 : decode cX8_add 8 = .ok (.istore_n 3, 1) := by decide +kernel
theorem dX8_add_9 : decode cX8_add 9 = .ok (.iload_n 3, 1) := by decide +kernel
theorem dX8_add_10 : decode cX8_add 10 = .ok (.ifCond .ne 25, 3) := by decide +kernel
theorem dX8_add_13 : decode cX8_add 13 = .ok (.aload_n 0, 1) := by decide +kernel
theorem dX8_add_14 : decode cX8_add 14 = .ok (.getfield 16, 3) := by decide +kernel
theorem dX8_add_17 : decode cX8_add 17 = .ok (.aload_n 0, 1) := by decide +kernel
theorem dX8_add_18 : decode cX8_add 18 = .ok (.getfield 19, 3) := by decide +kernel
theorem dX8_add_21 : decode cX8_add 21 = .ok (.iload_n 1, 1) := by decide +kernel
theorem dX8_add_22 : decode cX8_add 22 = .ok (.invokestatic 47, 3) := by decide +kernel
theorem dX8_add_25 : decode cX8_add 25 = .ok (.aload_n 0, 1) := by decide +kernel
theorem dX8_add_26 : decode cX8_add 26 = .ok (.dup, 1) := by decide +kernel
theorem dX8_add_27 : decode cX8_add 27 = .ok (.getfield 19, 3) := by decide +kernel
theorem dX8_add_30 : decode cX8_add 30 = .ok (.iconst 1, 1) := by decide +kernel
theorem dX8_add_31 : decode cX8_add 31 = .ok (.iadd, 1) := by decide +kernel
theorem dX8_add_32 : decode cX8_add 32 = .ok (.putfield 19, 3) := by decide +kernel
theorem dX8_add_35 : decode cX8_add 35 = .ok (.aload_n 0, 1) := by decide +kernel
theorem dX8_add_36 : decode cX8_add 36 = .ok (.getfield 10, 3) := by decide +kernel
theorem dX8_add_39 : decode cX8_add 39 = .ok (.iload_n 1, 1) := by decide +kernel
theorem dX8_add_40 : decode cX8_add 40 = .ok (.iload_n 3, 1) := by decide +kernel
theorem dX8_add_41 : decode cX8_add 41 = .ok (.iload_n 2, 1) := by decide +kernel
theorem dX8_add_42 : decode cX8_add 42 = .ok (.bipush 16, 2) := by decide +kernel
theorem dX8_add_44 : decode cX8_add 44 = .ok (.ishl, 1) := by decide +kernel
theorem dX8_add_45 : decode cX8_add 45 = .ok (.ior, 1) := by decide +kernel
theorem dX8_add_46 : decode cX8_add 46 = .ok (.invokestatic 47, 3) := by decide +kernel
theorem dX8_add_49 : decode cX8_add 49 = .ok (.return_, 1) := by decide +kernel
set_option maxRecDepth 20000 in
theorem ggX8_settle_X9_at : GoodIn wsX8_settle wsX9_at := goodIn_r _ [7] (by decide +kernel) (by decide +kernel)
set_option maxRecDepth 20000 in
theorem gX8_settle_X9_at_n34 : GoodIn wsX8_settle (wsX9_at) := ggX8_settle_X9_at
set_option maxRecDepth 20000 in
theorem ggX8_settle_X9_put : GoodIn wsX8_settle wsX9_put := goodIn_r _ [9] (by decide +kernel) (by decide +kernel)
set_option maxRecDepth 20000 in
theorem gX8_settle_X9_put_n47 : GoodIn wsX8_settle (wsX9_put) := ggX8_settle_X9_put
theorem dX8_settle_0 : decode cX8_settle 0 = .ok (.iconst 0, 1) := by decide +kernel
theorem dX8_settle_1 : decode cX8_settle 1 = .ok (.istore_n 1, 1) := by decide +kernel
theorem dX8_settle_2 : decode cX8_settle 2 = .ok (.iload_n 1, 1) := by decide +kernel
theorem dX8_settle_3 : decode cX8_settle 3 = .ok (.aload_n 0, 1) := by decide +kernel
theorem dX8_settle_4 : decode cX8_settle 4 = .ok (.getfield 19, 3) := by decide +kernel
theorem dX8_settle_7 : decode cX8_settle 7 = .ok (.if_icmp .ge 44, 3) := by decide +kernel
theorem dX8_settle_10 : decode cX8_settle 10 = .ok (.aload_n 0, 1) := by decide +kernel
theorem dX8_settle_11 : decode cX8_settle 11 = .ok (.getfield 16, 3) := by decide +kernel
theorem dX8_settle_14 : decode cX8_settle 14 = .ok (.iload_n 1, 1) := by decide +kernel
theorem dX8_settle_15 : decode cX8_settle 15 = .ok (.invokestatic 34, 3) := by decide +kernel
theorem dX8_settle_18 : decode cX8_settle 18 = .ok (.istore_n 2, 1) := by decide +kernel
theorem dX8_settle_19 : decode cX8_settle 19 = .ok (.aload_n 0, 1) := by decide +kernel
theorem dX8_settle_20 : decode cX8_settle 20 = .ok (.getfield 10, 3) := by decide +kernel
theorem dX8_settle_23 : decode cX8_settle 23 = .ok (.iload_n 2, 1) := by decide +kernel
theorem dX8_settle_24 : decode cX8_settle 24 = .ok (.invokestatic 34, 3) := by decide +kernel
theorem dX8_settle_27 : decode cX8_settle 27 = .ok (.istore_n 3, 1) := by decide +kernel
theorem dX8_settle_28 : decode cX8_settle 28 = .ok (.aload_n 0, 1) := by decide +kernel
theorem dX8_settle_29 : decode cX8_settle 29 = .ok (.getfield 10, 3) := by decide +kernel
theorem dX8_settle_32 : decode cX8_settle 32 = .ok (.iload_n 2, 1) := by decide +kernel
theorem dX8_settle_33 : decode cX8_settle 33 = .ok (.iload_n 3, 1) := by decide +kernel
theorem dX8_settle_34 : decode cX8_settle 34 = .ok (.iload_n 3, 1) := by decide +kernel
theorem dX8_settle_35 : decode cX8_settle 35 = .ok (.bipush 16, 2) := by decide +kernel
theorem dX8_settle_37 : decode cX8_settle 37 = .ok (.iushr, 1) := by decide +kernel
theorem dX8_settle_38 : decode cX8_settle 38 = .ok (.ior, 1) := by decide +kernel
theorem dX8_settle_39 : decode cX8_settle 39 = .ok (.ldc 51, 2) := by decide +kernel
theorem dX8_settle_41 : decode cX8_settle 41 = .ok (.iand, 1) := by decide +kernel
theorem dX8_settle_42 : decode cX8_settle 42 = .ok (.invokestatic 47, 3) := by decide +kernel
theorem dX8_settle_45 : decode cX8_settle 45 = .ok (.iinc 1 1, 3) := by decide +kernel
theorem dX8_settle_48 : decode cX8_settle 48 = .ok (.goto (-46), 3) := by decide +kernel
theorem dX8_settle_51 : decode cX8_settle 51 = .ok (.return_, 1) := by decide +kernel
set_option maxRecDepth 20000 in
theorem ggX9_init_X7_init : GoodIn wsX9_init wsX7_init := goodIn_r _ [45, 46, 2, 3, 32, 47, 48, 49, 50, 51, 52, 109, 110, 111, 112, 113, 114] (by decide +kernel) (by decide +kernel)
set_option maxRecDepth 20000 in
theorem gX9_init_X7_init_n9 : GoodIn wsX9_init (wsX7_init) := ggX9_init_X7_init
set_option maxRecDepth 20000 in
theorem ggX9_init_X1_init : GoodIn wsX9_init wsX1_init := goodIn_r _ [54, 55, 2, 3, 56, 32, 57, 58, 59, 130, 131, 132, 133] (by decide +kernel) (by decide +kernel)
set_option maxRecDepth 20000 in
theorem gX9_init_X1_init_n18 : GoodIn wsX9_init (wsX1_init) := ggX9_init_X1_init
set_option maxRecDepth 20000 in
theorem ggX9_init_X6_init : GoodIn wsX9_init wsX6_init := goodIn_r _ [61, 62, 2, 3, 32, 63, 64, 65, 66, 67, 68, 69, 70, 71, 72, 134, 135, 136, 137, 138, 139, 140, 141, 142, 143] (by decide +kernel) (by decide +kernel)
set_option maxRecDepth 20000 in
theorem gX9_init_X6_init_n25 : GoodIn wsX9_init (wsX6_init) := ggX9_init_X6_init
set_option maxRecDepth 20000 in
theorem ggX9_init_X5_init : GoodIn wsX9_init wsX5_init := goodIn_r _ [74, 75, 2, 3, 32, 76, 77, 78, 79, 144, 145, 146, 147] (by decide +kernel) (by decide +kernel)
set_option maxRecDepth 20000 in
theorem gX9_init_X5_init_n44 : GoodIn wsX9_init (wsX5_init) := ggX9_init_X5_init
set_option maxRecDepth 20000 in
theorem ggX9_init_X3_init : GoodIn wsX9_init wsX3_init := goodIn_r _ [81, 82, 2, 3, 32, 83, 84, 85, 86, 148, 149, 150, 151] (by decide +kernel) (by decide +kernel)
set_option maxRecDepth 20000 in
theorem gX9_init_X3_init_n51 : GoodIn wsX9_init (wsX3_init) := ggX9_init_X3_init
set_option maxRecDepth 20000 in
theorem ggX9_init_X4_init : GoodIn wsX9_init wsX4_init := goodIn_r _ [88, 89, 2, 3, 32, 90, 152] (by decide +kernel) (by decide +kernel)
set_option maxRecDepth 20000 in
theorem gX9_init_X4_init_n58 : GoodIn wsX9_init (wsX4_init) := ggX9_init_X4_init
set_option maxRecDepth 20000 in
theorem ggX9_init_X0_init : GoodIn wsX9_init wsX0_init := goodIn_r _ [92, 93, 2, 3, 32, 94, 95, 153, 154] (by decide +kernel) (by decide +kernel)
set_option maxRecDepth 20000 in
theorem gX9_init_X0_init_n67 : GoodIn wsX9_init (wsX0_init) := ggX9_init_X0_init
set_option maxRecDepth 20000 in
theorem ggX9_init_X2_init : GoodIn wsX9_init wsX2_init := goodIn_r _ [97, 98, 2, 3, 32, 99, 100, 101, 102, 103, 104, 105, 106, 107, 108, 155, 156, 157, 158, 159, 160, 161, 162, 163, 164] (by decide +kernel) (by decide +kernel)
set_option maxRecDepth 20000 in
theorem gX9_init_X2_init_n74 : GoodIn wsX9_init (wsX2_init) := ggX9_init_X2_init
theorem dX9_init_0 : decode cX9_init 0 = .ok (.aload_n 0, 1) := by decide +kernel
theorem dX9_init_1 : decode cX9_init 1 = .ok (.invokespecial 1, 3) := by decide +kernel
theorem dX9_init_4 : decode cX9_init 4 = .ok (.aload_n 0, 1) := by decide +kernel
theorem dX9_init_5 : decode cX9_init 5 = .ok (.new 7, 3) := by decide +kernel
theorem dX9_init_8 : decode cX9_init 8 = .ok (.dup, 1) := by decide +kernel
theorem dX9_init_9 : decode cX9_init 9 = .ok (.invokespecial 9, 3) := by decide +kernel
theorem dX9_init_12 : decode cX9_init 12 = .ok (.putfield 10, 3) := by decide +kernel
theorem dX9_init_15 : decode cX9_init 15 = .ok (.aload_n 0, 1) := by decide +kernel
theorem dX9_init_16 : decode cX9_init 16 = .ok (.new 16, 3) := by decide +kernel
theorem dX9_init_19 : decode cX9_init 19 = .ok (.dup, 1) := by decide +kernel
theorem dX9_init_20 : decode cX9_init 20 = .ok (.invokespecial 18, 3) := by decide +kernel
theorem dX9_init_23 : decode cX9_init 23 = .ok (.putfield 19, 3) := by decide +kernel
theorem dX9_init_26 : decode cX9_init 26 = .ok (.aload_n 0, 1) := by decide +kernel
theorem dX9_init_27 : decode cX9_init 27 = .ok (.new 23, 3) := by decide +kernel
theorem dX9_init_30 : decode cX9_init 30 = .ok (.dup, 1) := by decide +kernel
theorem dX9_init_31 : decode cX9_init 31 = .ok (.invokespecial 25, 3) := by decide +kernel
theorem dX9_init_34 : decode cX9_init 34 = .ok (.putfield 26, 3) := by decide +kernel
theorem dX9_init_37 : decode cX9_init 37 = .ok (.aload_n 0, 1) := by decide +kernel
theorem dX9_init_38 : decode cX9_init 38 = .ok (.new 23, 3) := by decide +kernel
theorem dX9_init_41 : decode cX9_init 41 = .ok (.dup, 1) := by decide +kernel
theorem dX9_init_42 : decode cX9_init 42 = .ok (.invokespecial 25, 3) := by decide +kernel
theorem dX9_init_45 : decode cX9_init 45 = .ok (.putfield 30, 3) := by decide +kernel
theorem dX9_init_48 : decode cX9_init 48 = .ok (.aload_n 0, 1) := by decide +kernel
theorem dX9_init_49 : decode cX9_init 49 = .ok (.new 23, 3) := by decide +kernel
theorem dX9_init_52 : decode cX9_init 52 = .ok (.dup, 1) := by decide +kernel
theorem dX9_init_53 : decode cX9_init 53 = .ok (.invokespecial 25, 3) := by decide +kernel
theorem dX9_init_56 : decode cX9_init 56 = .ok (.putfield 33, 3) := by decide +kernel
theorem dX9_init_59 : decode cX9_init 59 = .ok (.aload_n 0, 1) := by decide +kernel
theorem dX9_init_60 : decode cX9_init 60 = .ok (.bipush 8, 2) := by decide +kernel
theorem dX9_init_62 : decode cX9_init 62 = .ok (.anewarray 36, 3) := by decide +kernel
theorem dX9_init_65 : decode cX9_init 65 = .ok (.putfield 38, 3) := by decide +kernel
theorem dX9_init_68 : decode cX9_init 68 = .ok (.aload_n 0, 1) := by decide +kernel
theorem dX9_init_69 : decode cX9_init 69 = .ok (.new 42, 3) := by decide +kernel
theorem dX9_init_72 : decode cX9_init 72 = .ok (.dup, 1) := by decide +kernel
theorem dX9_init_73 : decode cX9_init 73 = .ok (.invokespecial 44, 3) := by decide +kernel
theorem dX9_init_76 : decode cX9_init 76 = .ok (.putfield 45, 3) := by decide +kernel
theorem dX9_init_79 : decode cX9_init 79 = .ok (.aload_n 0, 1) := by decide +kernel
theorem dX9_init_80 : decode cX9_init 80 = .ok (.new 49, 3) := by decide +kernel
theorem dX9_init_83 : decode cX9_init 83 = .ok (.dup, 1) := by decide +kernel
theorem dX9_init_84 : decode cX9_init 84 = .ok (.invokespecial 51, 3) := by decide +kernel
theorem dX9_init_87 : decode cX9_init 87 = .ok (.putfield 52, 3) := by decide +kernel
theorem dX9_init_90 : decode cX9_init 90 = .ok (.aload_n 0, 1) := by decide +kernel
theorem dX9_init_91 : decode cX9_init 91 = .ok (.new 56, 3) := by decide +kernel
theorem dX9_init_94 : decode cX9_init 94 = .ok (.dup, 1) := by decide +kernel
theorem dX9_init_95 : decode cX9_init 95 = .ok (.invokespecial 58, 3) := by decide +kernel
theorem dX9_init_98 : decode cX9_init 98 = .ok (.putfield 59, 3) := by decide +kernel
theorem dX9_init_101 : decode cX9_init 101 = .ok (.aload_n 0, 1) := by decide +kernel
theorem dX9_init_102 : decode cX9_init 102 = .ok (.bipush 54, 2) := by decide +kernel
theorem dX9_init_104 : decode cX9_init 104 = .ok (.newarray .int, 2) := by decide +kernel
theorem dX9_init_106 : decode cX9_init 106 = .ok (.putfield 63, 3) := by decide +kernel
theorem dX9_init_109 : decode cX9_init 109 = .ok (.aload_n 0, 1) := by decide +kernel
theorem dX9_init_110 : decode cX9_init 110 = .ok (.new 36, 3) := by decide +kernel
theorem dX9_init_113 : decode cX9_init 113 = .ok (.dup, 1) := by decide +kernel
theorem dX9_init_114 : decode cX9_init 114 = .ok (.invokespecial 67, 3) := by decide +kernel
theorem dX9_init_117 : decode cX9_init 117 = .ok (.putfield 68, 3) := by decide +kernel
theorem dX9_init_120 : decode cX9_init 120 = .ok (.aload_n 0, 1) := by decide +kernel
theorem dX9_init_121 : decode cX9_init 121 = .ok (.new 72, 3) := by decide +kernel
theorem dX9_init_124 : decode cX9_init 124 = .ok (.dup, 1) := by decide +kernel
theorem dX9_init_125 : decode cX9_init 125 = .ok (.invokespecial 74, 3) := by decide +kernel
theorem dX9_init_128 : decode cX9_init 128 = .ok (.putfield 75, 3) := by decide +kernel
theorem dX9_init_131 : decode cX9_init 131 = .ok (.aload_n 0, 1) := by decide +kernel
theorem dX9_init_132 : decode cX9_init 132 = .ok (.new 72, 3) := by decide +kernel
theorem dX9_init_135 : decode cX9_init 135 = .ok (.dup, 1) := by decide +kernel
theorem dX9_init_136 : decode cX9_init 136 = .ok (.invokespecial 74, 3) := by decide +kernel
theorem dX9_init_139 : decode cX9_init 139 = .ok (.putfield 79, 3) := by decide +kernel
theorem dX9_init_142 : decode cX9_init 142 = .ok (.aload_n 0, 1) := by decide +kernel
theorem dX9_init_143 : decode cX9_init 143 = .ok (.aconst_null, 1) := by decide +kernel
theorem dX9_init_144 : decode cX9_init 144 = .ok (.putfield 82, 3) := by decide +kernel
theorem dX9_init_147 : decode cX9_init 147 = .ok (.aload_n 0, 1) := by decide +kernel
theorem dX9_init_148 : decode cX9_init 148 = .ok (.iconst 0, 1) := by decide +kernel
theorem dX9_init_149 : decode cX9_init 149 = .ok (.putfield 86, 3) := by decide +kernel
theorem dX9_init_152 : decode cX9_init 152 = .ok (.iconst 0, 1) := by decide +kernel
theorem dX9_init_153 : decode cX9_init 153 = .ok (.istore_n 1, 1) := by decide +kernel
theorem dX9_init_154 : decode cX9_init 154 = .ok (.iload_n 1, 1) := by decide +kernel
theorem dX9_init_155 : decode cX9_init 155 = .ok (.aload_n 0, 1) := by decide +kernel
theorem dX9_init_156 : decode cX9_init 156 = .ok (.getfield 38, 3) := by decide +kernel
theorem dX9_init_159 : decode cX9_init 159 = .ok (.arraylength, 1) := by decide +kernel
theorem dX9_init_160 : decode cX9_init 160 = .ok (.if_icmp .ge 22, 3) := by decide +kernel
theorem dX9_init_163 : decode cX9_init 163 = .ok (.aload_n 0, 1) := by decide +kernel
theorem dX9_init_164 : decode cX9_init 164 = .ok (.getfield 38, 3) := by decide +kernel
theorem dX9_init_167 : decode cX9_init 167 = .ok (.iload_n 1, 1) := by decide +kernel
theorem dX9_init_168 : decode cX9_init 168 = .ok (.new 36, 3) := by decide +kernel
theorem dX9_init_171 : decode cX9_init 171 = .ok (.dup, 1) := by decide +kernel
theorem dX9_init_172 : decode cX9_init 172 = .ok (.invokespecial 67, 3) := by decide +kernel
theorem dX9_init_175 : decode cX9_init 175 = .ok (.aastore, 1) := by decide +kernel
theorem dX9_init_176 : decode cX9_init 176 = .ok (.iinc 1 1, 3) := by decide +kernel
theorem dX9_init_179 : decode cX9_init 179 = .ok (.goto (-25), 3) := by decide +kernel
theorem dX9_init_182 : decode cX9_init 182 = .ok (.return_, 1) := by decide +kernel
set_option maxRecDepth 20000 in
theorem ggX9_place_X9_within : GoodIn wsX9_place wsX9_within := goodIn_r _ [9] (by decide +kernel) (by decide +kernel)
set_option maxRecDepth 20000 in
theorem gX9_place_X9_within : GoodIn wsX9_place (va_wsS RX9 90 yX9_within wsX9_within) := goodIn_app (goodIn_of _ (by decide +kernel)) ggX9_place_X9_within
set_option maxRecDepth 20000 in
theorem ggX9_place_X9_put : GoodIn wsX9_place wsX9_put := goodIn_r _ [12] (by decide +kernel) (by decide +kernel)
set_option maxRecDepth 20000 in
theorem gX9_place_X9_put : GoodIn wsX9_place (va_wsS RX9 101 yX9_put wsX9_put) := goodIn_app (goodIn_of _ (by decide +kernel)) ggX9_place_X9_put
theorem dX9_place_0 : decode cX9_place 0 = .ok (.iload_n 1, 1) := by decide +kernel
theorem dX9_place_1 : decode cX9_place 1 = .ok (.iconst 0, 1) := by decide +kernel
theorem dX9_place_2 : decode cX9_place 2 = .ok (.bipush 15, 2) := by decide +kernel
theorem dX9_place_4 : decode cX9_place 4 = .ok (.invokestatic 90, 3) := by decide +kernel
theorem dX9_place_7 : decode cX9_place 7 = .ok (.ifCond .eq 24, 3) := by decide +kernel
theorem dX9_place_10 : decode cX9_place 10 = .ok (.iload_n 2, 1) := by decide +kernel
theorem dX9_place_11 : decode cX9_place 11 = .ok (.iconst 0, 1) := by decide +kernel
theorem dX9_place_12 : decode cX9_place 12 = .ok (.bipush 99, 2) := by decide +kernel
theorem dX9_place_14 : decode cX9_place 14 = .ok (.invokestatic 90, 3) := by decide +kernel
theorem dX9_place_17 : decode cX9_place 17 = .ok (.ifCond .eq 14, 3) := by decide +kernel
theorem dX9_place_20 : decode cX9_place 20 = .ok (.iload_n 3, 1) := by decide +kernel
theorem dX9_place_21 : decode cX9_place 21 = .ok (.iconst 0, 1) := by decide +kernel
theorem dX9_place_22 : decode cX9_place 22 = .ok (.sipush 999, 3) := by decide +kernel
theorem dX9_place_25 : decode cX9_place 25 = .ok (.invokestatic 90, 3) := by decide +kernel
theorem dX9_place_28 : decode cX9_place 28 = .ok (.ifCond .ne 5, 3) := by decide +kernel
theorem dX9_place_31 : decode cX9_place 31 = .ok (.iconst 0, 1) := by decide +kernel
theorem dX9_place_32 : decode cX9_place 32 = .ok (.ireturn, 1) := by decide +kernel
theorem dX9_place_33 : decode cX9_place 33 = .ok (.aload_n 0, 1) := by decide +kernel
theorem dX9_place_34 : decode cX9_place 34 = .ok (.getfield 19, 3) := by decide +kernel
theorem dX9_place_37 : decode cX9_place 37 = .ok (.dup, 1) := by decide +kernel
theorem dX9_place_38 : decode cX9_place 38 = .ok (.getfield 94, 3) := by decide +kernel
theorem dX9_place_41 : decode cX9_place 41 = .ok (.iconst 1, 1) := by decide +kernel
theorem dX9_place_42 : decode cX9_place 42 = .ok (.iload_n 1, 1) := by decide +kernel
theorem dX9_place_43 : decode cX9_place 43 = .ok (.ishl, 1) := by decide +kernel
theorem dX9_place_44 : decode cX9_place 44 = .ok (.ior, 1) := by decide +kernel
theorem dX9_place_45 : decode cX9_place 45 = .ok (.putfield 94, 3) := by decide +kernel
theorem dX9_place_48 : decode cX9_place 48 = .ok (.aload_n 0, 1) := by decide +kernel
theorem dX9_place_49 : decode cX9_place 49 = .ok (.getfield 26, 3) := by decide +kernel
theorem dX9_place_52 : decode cX9_place 52 = .ok (.getfield 98, 3) := by decide +kernel
theorem dX9_place_55 : decode cX9_place 55 = .ok (.iload_n 1, 1) := by decide +kernel
theorem dX9_place_56 : decode cX9_place 56 = .ok (.iload_n 2, 1) := by decide +kernel
theorem dX9_place_57 : decode cX9_place 57 = .ok (.invokestatic 101, 3) := by decide +kernel
theorem dX9_place_60 : decode cX9_place 60 = .ok (.aload_n 0, 1) := by decide +kernel
theorem dX9_place_61 : decode cX9_place 61 = .ok (.getfield 26, 3) := by decide +kernel
theorem dX9_place_64 : decode cX9_place 64 = .ok (.getfield 105, 3) := by decide +kernel
theorem dX9_place_67 : decode cX9_place 67 = .ok (.iload_n 1, 1) := by decide +kernel
theorem dX9_place_68 : decode cX9_place 68 = .ok (.iload_n 3, 1) := by decide +kernel
theorem dX9_place_69 : decode cX9_place 69 = .ok (.invokestatic 101, 3) := by decide +kernel
theorem dX9_place_72 : decode cX9_place 72 = .ok (.iconst 1, 1) := by decide +kernel
theorem dX9_place_73 : decode cX9_place 73 = .ok (.ireturn, 1) := by decide +kernel
set_option maxRecDepth 20000 in
theorem ggX9_constable_X9_within : GoodIn wsX9_constable wsX9_within := goodIn_r _ [9] (by decide +kernel) (by decide +kernel)
set_option maxRecDepth 20000 in
theorem gX9_constable_X9_within : GoodIn wsX9_constable (va_wsS RX9 90 yX9_within wsX9_within) := goodIn_app (goodIn_of _ (by decide +kernel)) ggX9_constable_X9_within
set_option maxRecDepth 20000 in
theorem ggX9_constable_X1_isTold : GoodIn wsX9_constable wsX1_isTold := goodIn_r _ [14, 15, 7, 8, 9, 16, 17, 6, 46, 47, 48, 49] (by decide +kernel) (by decide +kernel)
set_option maxRecDepth 20000 in
theorem gX9_constable_X1_isTold : GoodIn wsX9_constable (wsV RX9 108 RX1 yX1_isTold wsX1_isTold) := goodIn_app (goodIn_of _ (by decide +kernel)) ggX9_constable_X1_isTold
set_option maxRecDepth 20000 in
theorem ggX9_constable_X9_put : GoodIn wsX9_constable wsX9_put := goodIn_r _ [20] (by decide +kernel) (by decide +kernel)
set_option maxRecDepth 20000 in
theorem gX9_constable_X9_put : GoodIn wsX9_constable (va_wsS RX9 101 yX9_put wsX9_put) := goodIn_app (goodIn_of _ (by decide +kernel)) ggX9_constable_X9_put
theorem dX9_constable_0 : decode cX9_constable 0 = .ok (.iload_n 1, 1) := by decide +kernel
theorem dX9_constable_1 : decode cX9_constable 1 = .ok (.iconst 0, 1) := by decide +kernel
theorem dX9_constable_2 : decode cX9_constable 2 = .ok (.bipush 7, 2) := by decide +kernel
theorem dX9_constable_4 : decode cX9_constable 4 = .ok (.invokestatic 90, 3) := by decide +kernel
theorem dX9_constable_7 : decode cX9_constable 7 = .ok (.ifCond .eq 14, 3) := by decide +kernel
theorem dX9_constable_10 : decode cX9_constable 10 = .ok (.aload_n 0, 1) := by decide +kernel
theorem dX9_constable_11 : decode cX9_constable 11 = .ok (.getfield 19, 3) := by decide +kernel
theorem dX9_constable_14 : decode cX9_constable 14 = .ok (.iload_n 2, 1) := by decide +kernel
theorem dX9_constable_15 : decode cX9_constable 15 = .ok (.invokevirtual 108, 3) := by decide +kernel
theorem dX9_constable_18 : decode cX9_constable 18 = .ok (.ifCond .ne 5, 3) := by decide +kernel
theorem dX9_constable_21 : decode cX9_constable 21 = .ok (.iconst 0, 1) := by decide +kernel
theorem dX9_constable_22 : decode cX9_constable 22 = .ok (.ireturn, 1) := by decide +kernel
theorem dX9_constable_23 : decode cX9_constable 23 = .ok (.aload_n 0, 1) := by decide +kernel
theorem dX9_constable_24 : decode cX9_constable 24 = .ok (.getfield 26, 3) := by decide +kernel
theorem dX9_constable_27 : decode cX9_constable 27 = .ok (.dup, 1) := by decide +kernel
theorem dX9_constable_28 : decode cX9_constable 28 = .ok (.getfield 112, 3) := by decide +kernel
theorem dX9_constable_31 : decode cX9_constable 31 = .ok (.iconst 1, 1) := by decide +kernel
theorem dX9_constable_32 : decode cX9_constable 32 = .ok (.iload_n 1, 1) := by decide +kernel
theorem dX9_constable_33 : decode cX9_constable 33 = .ok (.ishl, 1) := by decide +kernel
theorem dX9_constable_34 : decode cX9_constable 34 = .ok (.ior, 1) := by decide +kernel
theorem dX9_constable_35 : decode cX9_constable 35 = .ok (.putfield 112, 3) := by decide +kernel
theorem dX9_constable_38 : decode cX9_constable 38 = .ok (.aload_n 0, 1) := by decide +kernel
theorem dX9_constable_39 : decode cX9_constable 39 = .ok (.getfield 26, 3) := by decide +kernel
theorem dX9_constable_42 : decode cX9_constable 42 = .ok (.getfield 115, 3) := by decide +kernel
theorem dX9_constable_45 : decode cX9_constable 45 = .ok (.iload_n 1, 1) := by decide +kernel
theorem dX9_constable_46 : decode cX9_constable 46 = .ok (.iload_n 2, 1) := by decide +kernel
theorem dX9_constable_47 : decode cX9_constable 47 = .ok (.invokestatic 101, 3) := by decide +kernel
theorem dX9_constable_50 : decode cX9_constable 50 = .ok (.aload_n 0, 1) := by decide +kernel
theorem dX9_constable_51 : decode cX9_constable 51 = .ok (.getfield 26, 3) := by decide +kernel
theorem dX9_constable_54 : decode cX9_constable 54 = .ok (.getfield 118, 3) := by decide +kernel
theorem dX9_constable_57 : decode cX9_constable 57 = .ok (.iload_n 1, 1) := by decide +kernel
theorem dX9_constable_58 : decode cX9_constable 58 = .ok (.iconst 0, 1) := by decide +kernel
theorem dX9_constable_59 : decode cX9_constable 59 = .ok (.invokestatic 101, 3) := by decide +kernel
theorem dX9_constable_62 : decode cX9_constable 62 = .ok (.iconst 1, 1) := by decide +kernel
theorem dX9_constable_63 : decode cX9_constable 63 = .ok (.ireturn, 1) := by decide +kernel
set_option maxRecDepth 20000 in
theorem ggX9_seed_X9_within : GoodIn wsX9_seed wsX9_within := goodIn_r _ [7] (by decide +kernel) (by decide +kernel)
set_option maxRecDepth 20000 in
theorem gX9_seed_X9_within : GoodIn wsX9_seed (va_wsS RX9 90 yX9_within wsX9_within) := goodIn_app (goodIn_of _ (by decide +kernel)) ggX9_seed_X9_within
theorem dX9_seed_0 : decode cX9_seed 0 = .ok (.iload_n 1, 1) := by decide +kernel
theorem dX9_seed_1 : decode cX9_seed 1 = .ok (.iconst 0, 1) := by decide +kernel
theorem dX9_seed_2 : decode cX9_seed 2 = .ok (.ldc 121, 2) := by decide +kernel
theorem dX9_seed_4 : decode cX9_seed 4 = .ok (.invokestatic 90, 3) := by decide +kernel
theorem dX9_seed_7 : decode cX9_seed 7 = .ok (.ifCond .ne 5, 3) := by decide +kernel
theorem dX9_seed_10 : decode cX9_seed 10 = .ok (.iconst 0, 1) := by decide +kernel
theorem dX9_seed_11 : decode cX9_seed 11 = .ok (.ireturn, 1) := by decide +kernel
theorem dX9_seed_12 : decode cX9_seed 12 = .ok (.aload_n 0, 1) := by decide +kernel
theorem dX9_seed_13 : decode cX9_seed 13 = .ok (.getfield 26, 3) := by decide +kernel
theorem dX9_seed_16 : decode cX9_seed 16 = .ok (.iload_n 1, 1) := by decide +kernel
theorem dX9_seed_17 : decode cX9_seed 17 = .ok (.putfield 122, 3) := by decide +kernel
theorem dX9_seed_20 : decode cX9_seed 20 = .ok (.iconst 1, 1) := by decide +kernel
theorem dX9_seed_21 : decode cX9_seed 21 = .ok (.ireturn, 1) := by decide +kernel
set_option maxRecDepth 20000 in
theorem ggX9_feed_X7_append : GoodIn wsX9_feed wsX7_append := goodIn_r _ [7, 8, 9, 10, 11, 12, 28, 29, 30, 31, 32, 33] (by decide +kernel) (by decide +kernel)
set_option maxRecDepth 20000 in
theorem gX9_feed_X7_append : GoodIn wsX9_feed (wsV RX9 128 RX7 yX7_append wsX7_append) := goodIn_app (goodIn_of _ (by decide +kernel)) ggX9_feed_X7_append
theorem dX9_feed_0 : decode cX9_feed 0 = .ok (.aload_n 0, 1) := by decide +kernel
theorem dX9_feed_1 : decode cX9_feed 1 = .ok (.getfield 10, 3) := by decide +kernel
theorem dX9_feed_4 : decode cX9_feed 4 = .ok (.getfield 125, 3) := by decide +kernel
theorem dX9_feed_7 : decode cX9_feed 7 = .ok (.bipush 20, 2) := by decide +kernel
theorem dX9_feed_9 : decode cX9_feed 9 = .ok (.iadd, 1) := by decide +kernel
theorem dX9_feed_10 : decode cX9_feed 10 = .ok (.sipush 260, 3) := by decide +kernel
theorem dX9_feed_13 : decode cX9_feed 13 = .ok (.if_icmp .le 5, 3) := by decide +kernel
theorem dX9_feed_16 : decode cX9_feed 16 = .ok (.iconst (-1), 1) := by decide +kernel
theorem dX9_feed_17 : decode cX9_feed 17 = .ok (.ireturn, 1) := by decide +kernel
theorem dX9_feed_18 : decode cX9_feed 18 = .ok (.aload_n 0, 1) := by decide +kernel
theorem dX9_feed_19 : decode cX9_feed 19 = .ok (.getfield 10, 3) := by decide +kernel
theorem dX9_feed_22 : decode cX9_feed 22 = .ok (.iload_n 1, 1) := by decide +kernel
theorem dX9_feed_23 : decode cX9_feed 23 = .ok (.invokevirtual 128, 3) := by decide +kernel
theorem dX9_feed_26 : decode cX9_feed 26 = .ok (.aload_n 0, 1) := by decide +kernel
theorem dX9_feed_27 : decode cX9_feed 27 = .ok (.getfield 10, 3) := by decide +kernel
theorem dX9_feed_30 : decode cX9_feed 30 = .ok (.iload_n 2, 1) := by decide +kernel
theorem dX9_feed_31 : decode cX9_feed 31 = .ok (.invokevirtual 128, 3) := by decide +kernel
theorem dX9_feed_34 : decode cX9_feed 34 = .ok (.aload_n 0, 1) := by decide +kernel
theorem dX9_feed_35 : decode cX9_feed 35 = .ok (.getfield 10, 3) := by decide +kernel
theorem dX9_feed_38 : decode cX9_feed 38 = .ok (.iload_n 3, 1) := by decide +kernel
theorem dX9_feed_39 : decode cX9_feed 39 = .ok (.invokevirtual 128, 3) := by decide +kernel
theorem dX9_feed_42 : decode cX9_feed 42 = .ok (.aload_n 0, 1) := by decide +kernel
theorem dX9_feed_43 : decode cX9_feed 43 = .ok (.getfield 10, 3) := by decide +kernel
theorem dX9_feed_46 : decode cX9_feed 46 = .ok (.iload 4, 2) := by decide +kernel
theorem dX9_feed_48 : decode cX9_feed 48 = .ok (.invokevirtual 128, 3) := by decide +kernel
theorem dX9_feed_51 : decode cX9_feed 51 = .ok (.aload_n 0, 1) := by decide +kernel
theorem dX9_feed_52 : decode cX9_feed 52 = .ok (.getfield 10, 3) := by decide +kernel
theorem dX9_feed_55 : decode cX9_feed 55 = .ok (.iload 5, 2) := by decide +kernel
theorem dX9_feed_57 : decode cX9_feed 57 = .ok (.invokevirtual 128, 3) := by decide +kernel
theorem dX9_feed_60 : decode cX9_feed 60 = .ok (.aload_n 0, 1) := by decide +kernel
theorem dX9_feed_61 : decode cX9_feed 61 = .ok (.getfield 10, 3) := by decide +kernel
theorem dX9_feed_64 : decode cX9_feed 64 = .ok (.getfield 125, 3) := by decide +kernel
theorem dX9_feed_67 : decode cX9_feed 67 = .ok (.ireturn, 1) := by decide +kernel
set_option maxRecDepth 20000 in
theorem ggX9_law_X9_within : GoodIn wsX9_law wsX9_within := goodIn_r _ [8] (by decide +kernel) (by decide +kernel)
set_option maxRecDepth 20000 in
theorem gX9_law_X9_within : GoodIn wsX9_law (va_wsS RX9 90 yX9_within wsX9_within) := goodIn_app (goodIn_of _ (by decide +kernel)) ggX9_law_X9_within
set_option maxRecDepth 20000 in
theorem ggX9_law_X7_holds : GoodIn wsX9_law wsX7_holds := goodIn_r _ [13, 14, 153, 154, 155, 156, 157, 158] (by decide +kernel) (by decide +kernel)
set_option maxRecDepth 20000 in
theorem gX9_law_X7_holds : GoodIn wsX9_law (wsV RX9 132 RX7 yX7_holds wsX7_holds) := goodIn_app (goodIn_of _ (by decide +kernel)) ggX9_law_X7_holds
set_option maxRecDepth 20000 in
theorem ggX9_law_X7_open : GoodIn wsX9_law wsX7_open := goodIn_r _ [18, 14, 19, 20, 21, 22, 153, 154, 155, 156, 157, 158] (by decide +kernel) (by decide +kernel)
set_option maxRecDepth 20000 in
theorem gX9_law_X7_open : GoodIn wsX9_law (wsV RX9 135 RX7 yX7_open wsX7_open) := goodIn_app (goodIn_of _ (by decide +kernel)) ggX9_law_X7_open
set_option maxRecDepth 20000 in
theorem ggX9_law_X2_read : GoodIn wsX9_law wsX2_read := goodIn_r _ [27, 28, 29, 30, 31, 32, 26, 33, 34, 35, 36, 37, 38, 39, 40, 12, 41, 20, 19, 42, 43, 7, 44, 45, 46, 47, 48, 49, 50, 51, 52, 21, 22, 53, 54, 55, 56, 57, 58, 59, 60, 61, 62, 63, 64, 65, 66, 67, 68, 69, 70, 71, 72, 73, 74, 75, 76, 77, 78, 79, 80, 81, 82, 83, 84, 85, 86, 87, 88, 89, 90, 91, 92, 6, 8, 93, 94, 95, 96, 97, 98, 99, 100, 101, 102, 103, 104, 105, 106, 107, 108, 109, 110, 111, 112, 113, 114, 115, 116, 117, 118, 119, 120, 121, 122, 143, 144, 145, 146, 147, 148, 149, 150, 151, 152, 153, 154, 155, 156, 157, 158] (by decide +kernel) (by decide +kernel)
set_option maxRecDepth 20000 in
theorem gX9_law_X2_read : GoodIn wsX9_law (wsV RX9 138 RX2 yX2_read wsX2_read) := goodIn_app (goodIn_of _ (by decide +kernel)) ggX9_law_X2_read
set_option maxRecDepth 20000 in
theorem ggX9_law_X7_isFine : GoodIn wsX9_law wsX7_isFine := goodIn_r _ [69, 21, 153, 154, 155, 156, 157, 158] (by decide +kernel) (by decide +kernel)
set_option maxRecDepth 20000 in
theorem gX9_law_X7_isFine : GoodIn wsX9_law (wsV RX9 142 RX7 yX7_isFine wsX7_isFine) := goodIn_app (goodIn_of _ (by decide +kernel)) ggX9_law_X7_isFine
set_option maxRecDepth 20000 in
theorem ggX9_law_X7_answer : GoodIn wsX9_law wsX7_answer := goodIn_r _ [127, 21, 22, 153, 154, 155, 156, 157, 158] (by decide +kernel) (by decide +kernel)
set_option maxRecDepth 20000 in
theorem gX9_law_X7_answer : GoodIn wsX9_law (wsV RX9 149 RX7 yX7_answer wsX7_answer) := goodIn_app (goodIn_of _ (by decide +kernel)) ggX9_law_X7_answer
theorem dX9_law_0 : decode cX9_law 0 = .ok (.iload_n 1, 1) := by decide +kernel
theorem dX9_law_1 : decode cX9_law 1 = .ok (.iconst 1, 1) := by decide +kernel
theorem dX9_law_2 : decode cX9_law 2 = .ok (.sipush 240, 3) := by decide +kernel
theorem dX9_law_5 : decode cX9_law 5 = .ok (.invokestatic 90, 3) := by decide +kernel
theorem dX9_law_8 : decode cX9_law 8 = .ok (.ifCond .eq 14, 3) := by decide +kernel
theorem dX9_law_11 : decode cX9_law 11 = .ok (.aload_n 0, 1) := by decide +kernel
theorem dX9_law_12 : decode cX9_law 12 = .ok (.getfield 10, 3) := by decide +kernel
theorem dX9_law_15 : decode cX9_law 15 = .ok (.iload_n 1, 1) := by decide +kernel
theorem dX9_law_16 : decode cX9_law 16 = .ok (.invokevirtual 132, 3) := by decide +kernel
theorem dX9_law_19 : decode cX9_law 19 = .ok (.ifCond .ne 5, 3) := by decide +kernel
theorem dX9_law_22 : decode cX9_law 22 = .ok (.iconst (-1), 1) := by decide +kernel
theorem dX9_law_23 : decode cX9_law 23 = .ok (.ireturn, 1) := by decide +kernel
theorem dX9_law_24 : decode cX9_law 24 = .ok (.aload_n 0, 1) := by decide +kernel
theorem dX9_law_25 : decode cX9_law 25 = .ok (.getfield 10, 3) := by decide +kernel
theorem dX9_law_28 : decode cX9_law 28 = .ok (.iload_n 1, 1) := by decide +kernel
theorem dX9_law_29 : decode cX9_law 29 = .ok (.invokevirtual 135, 3) := by decide +kernel
theorem dX9_law_32 : decode cX9_law 32 = .ok (.aload_n 0, 1) := by decide +kernel
theorem dX9_law_33 : decode cX9_law 33 = .ok (.getfield 79, 3) := by decide +kernel
theorem dX9_law_36 : decode cX9_law 36 = .ok (.aload_n 0, 1) := by decide +kernel
theorem dX9_law_37 : decode cX9_law 37 = .ok (.getfield 10, 3) := by decide +kernel
theorem dX9_law_40 : decode cX9_law 40 = .ok (.invokevirtual 138, 3) := by decide +kernel
theorem dX9_law_43 : decode cX9_law 43 = .ok (.aload_n 0, 1) := by decide +kernel
theorem dX9_law_44 : decode cX9_law 44 = .ok (.getfield 10, 3) := by decide +kernel
theorem dX9_law_47 : decode cX9_law 47 = .ok (.invokevirtual 142, 3) := by decide +kernel
theorem dX9_law_50 : decode cX9_law 50 = .ok (.ifCond .eq 21, 3) := by decide +kernel
theorem dX9_law_53 : decode cX9_law 53 = .ok (.aload_n 0, 1) := by decide +kernel
theorem dX9_law_54 : decode cX9_law 54 = .ok (.getfield 75, 3) := by decide +kernel
theorem dX9_law_57 : decode cX9_law 57 = .ok (.astore_n 2, 1) := by decide +kernel
theorem dX9_law_58 : decode cX9_law 58 = .ok (.aload_n 0, 1) := by decide +kernel
theorem dX9_law_59 : decode cX9_law 59 = .ok (.aload_n 0, 1) := by decide +kernel
theorem dX9_law_60 : decode cX9_law 60 = .ok (.getfield 79, 3) := by decide +kernel
theorem dX9_law_63 : decode cX9_law 63 = .ok (.putfield 75, 3) := by decide +kernel
theorem dX9_law_66 : decode cX9_law 66 = .ok (.aload_n 0, 1) := by decide +kernel
theorem dX9_law_67 : decode cX9_law 67 = .ok (.aload_n 2, 1) := by decide +kernel
theorem dX9_law_68 : decode cX9_law 68 = .ok (.putfield 79, 3) := by decide +kernel
theorem dX9_law_71 : decode cX9_law 71 = .ok (.aload_n 0, 1) := by decide +kernel
theorem dX9_law_72 : decode cX9_law 72 = .ok (.getfield 10, 3) := by decide +kernel
theorem dX9_law_75 : decode cX9_law 75 = .ok (.aload_n 0, 1) := by decide +kernel
theorem dX9_law_76 : decode cX9_law 76 = .ok (.getfield 75, 3) := by decide +kernel
theorem dX9_law_79 : decode cX9_law 79 = .ok (.getfield 146, 3) := by decide +kernel
theorem dX9_law_82 : decode cX9_law 82 = .ok (.invokevirtual 149, 3) := by decide +kernel
theorem dX9_law_85 : decode cX9_law 85 = .ok (.ireturn, 1) := by decide +kernel
set_option maxRecDepth 20000 in
theorem ggX9_beat_X9_within : GoodIn wsX9_beat wsX9_within := goodIn_r _ [8] (by decide +kernel) (by decide +kernel)
set_option maxRecDepth 20000 in
theorem gX9_beat_X9_within : GoodIn wsX9_beat (va_wsS RX9 90 yX9_within wsX9_within) := goodIn_app (goodIn_of _ (by decide +kernel)) ggX9_beat_X9_within
set_option maxRecDepth 20000 in
theorem ggX9_beat_X7_holds : GoodIn wsX9_beat wsX7_holds := goodIn_r _ [13, 14, 108, 109, 110, 111, 112, 113] (by decide +kernel) (by decide +kernel)
set_option maxRecDepth 20000 in
theorem gX9_beat_X7_holds : GoodIn wsX9_beat (wsV RX9 132 RX7 yX7_holds wsX7_holds) := goodIn_app (goodIn_of _ (by decide +kernel)) ggX9_beat_X7_holds
set_option maxRecDepth 20000 in
theorem ggX9_beat_X7_open : GoodIn wsX9_beat wsX7_open := goodIn_r _ [18, 14, 19, 20, 21, 22, 108, 109, 110, 111, 112, 113] (by decide +kernel) (by decide +kernel)
set_option maxRecDepth 20000 in
theorem gX9_beat_X7_open : GoodIn wsX9_beat (wsV RX9 135 RX7 yX7_open wsX7_open) := goodIn_app (goodIn_of _ (by decide +kernel)) ggX9_beat_X7_open
set_option maxRecDepth 20000 in
theorem ggX9_beat_X0_read : GoodIn wsX9_beat wsX0_read := goodIn_r _ [27, 28, 29, 30, 31, 26, 32, 33, 34, 35, 36, 37, 38, 12, 39, 21, 40, 41, 42, 43, 20, 19, 44, 45, 7, 46, 47, 48, 49, 50, 51, 52, 53, 54, 55, 22, 56, 57, 58, 59, 60, 61, 62, 63, 64, 65, 66, 67, 68, 69, 70, 71, 72, 6, 8, 73, 74, 75, 76, 77, 78, 79, 80, 81, 82, 83, 84, 85, 106, 107, 108, 109, 110, 111, 112, 113] (by decide +kernel) (by decide +kernel)
set_option maxRecDepth 20000 in
theorem gX9_beat_X0_read : GoodIn wsX9_beat (wsV RX9 153 RX0 yX0_read wsX0_read) := goodIn_app (goodIn_of _ (by decide +kernel)) ggX9_beat_X0_read
set_option maxRecDepth 20000 in
theorem ggX9_beat_X7_isFine : GoodIn wsX9_beat wsX7_isFine := goodIn_r _ [39, 21, 108, 109, 110, 111, 112, 113] (by decide +kernel) (by decide +kernel)
set_option maxRecDepth 20000 in
theorem gX9_beat_X7_isFine : GoodIn wsX9_beat (wsV RX9 142 RX7 yX7_isFine wsX7_isFine) := goodIn_app (goodIn_of _ (by decide +kernel)) ggX9_beat_X7_isFine
set_option maxRecDepth 20000 in
theorem ggX9_beat_X7_answer : GoodIn wsX9_beat wsX7_answer := goodIn_r _ [90, 21, 22, 108, 109, 110, 111, 112, 113] (by decide +kernel) (by decide +kernel)
set_option maxRecDepth 20000 in
theorem gX9_beat_X7_answer : GoodIn wsX9_beat (wsV RX9 149 RX7 yX7_answer wsX7_answer) := goodIn_app (goodIn_of _ (by decide +kernel)) ggX9_beat_X7_answer
theorem dX9_beat_0 : decode cX9_beat 0 = .ok (.iload_n 1, 1) := by decide +kernel
theorem dX9_beat_1 : decode cX9_beat 1 = .ok (.iconst 0, 1) := by decide +kernel
theorem dX9_beat_2 : decode cX9_beat 2 = .ok (.aload_n 0, 1) := by decide +kernel
theorem dX9_beat_3 : decode cX9_beat 3 = .ok (.getfield 38, 3) := by decide +kernel
theorem dX9_beat_6 : decode cX9_beat 6 = .ok (.arraylength, 1) := by decide +kernel
theorem dX9_beat_7 : decode cX9_beat 7 = .ok (.iconst 1, 1) := by decide +kernel
theorem dX9_beat_8 : decode cX9_beat 8 = .ok (.isub, 1) := by decide +kernel
theorem dX9_beat_9 : decode cX9_beat 9 = .ok (.invokestatic 90, 3) := by decide +kernel
theorem dX9_beat_12 : decode cX9_beat 12 = .ok (.ifCond .eq 24, 3) := by decide +kernel
theorem dX9_beat_15 : decode cX9_beat 15 = .ok (.iload_n 2, 1) := by decide +kernel
theorem dX9_beat_16 : decode cX9_beat 16 = .ok (.iconst 1, 1) := by decide +kernel
theorem dX9_beat_17 : decode cX9_beat 17 = .ok (.bipush 60, 2) := by decide +kernel
theorem dX9_beat_19 : decode cX9_beat 19 = .ok (.invokestatic 90, 3) := by decide +kernel
theorem dX9_beat_22 : decode cX9_beat 22 = .ok (.ifCond .eq 14, 3) := by decide +kernel
theorem dX9_beat_25 : decode cX9_beat 25 = .ok (.aload_n 0, 1) := by decide +kernel
theorem dX9_beat_26 : decode cX9_beat 26 = .ok (.getfield 10, 3) := by decide +kernel
theorem dX9_beat_29 : decode cX9_beat 29 = .ok (.iload_n 2, 1) := by decide +kernel
theorem dX9_beat_30 : decode cX9_beat 30 = .ok (.invokevirtual 132, 3) := by decide +kernel
theorem dX9_beat_33 : decode cX9_beat 33 = .ok (.ifCond .ne 5, 3) := by decide +kernel
theorem dX9_beat_36 : decode cX9_beat 36 = .ok (.iconst (-1), 1) := by decide +kernel
theorem dX9_beat_37 : decode cX9_beat 37 = .ok (.ireturn, 1) := by decide +kernel
theorem dX9_beat_38 : decode cX9_beat 38 = .ok (.aload_n 0, 1) := by decide +kernel
theorem dX9_beat_39 : decode cX9_beat 39 = .ok (.getfield 10, 3) := by decide +kernel
theorem dX9_beat_42 : decode cX9_beat 42 = .ok (.iload_n 2, 1) := by decide +kernel
theorem dX9_beat_43 : decode cX9_beat 43 = .ok (.invokevirtual 135, 3) := by decide +kernel
theorem dX9_beat_46 : decode cX9_beat 46 = .ok (.aload_n 0, 1) := by decide +kernel
theorem dX9_beat_47 : decode cX9_beat 47 = .ok (.getfield 68, 3) := by decide +kernel
theorem dX9_beat_50 : decode cX9_beat 50 = .ok (.aload_n 0, 1) := by decide +kernel
theorem dX9_beat_51 : decode cX9_beat 51 = .ok (.getfield 10, 3) := by decide +kernel
theorem dX9_beat_54 : decode cX9_beat 54 = .ok (.invokevirtual 153, 3) := by decide +kernel
theorem dX9_beat_57 : decode cX9_beat 57 = .ok (.aload_n 0, 1) := by decide +kernel
theorem dX9_beat_58 : decode cX9_beat 58 = .ok (.getfield 68, 3) := by decide +kernel
theorem dX9_beat_61 : decode cX9_beat 61 = .ok (.getfield 154, 3) := by decide +kernel
theorem dX9_beat_64 : decode cX9_beat 64 = .ok (.istore_n 3, 1) := by decide +kernel
theorem dX9_beat_65 : decode cX9_beat 65 = .ok (.aload_n 0, 1) := by decide +kernel
theorem dX9_beat_66 : decode cX9_beat 66 = .ok (.getfield 10, 3) := by decide +kernel
theorem dX9_beat_69 : decode cX9_beat 69 = .ok (.invokevirtual 142, 3) := by decide +kernel
theorem dX9_beat_72 : decode cX9_beat 72 = .ok (.ifCond .eq 27, 3) := by decide +kernel
theorem dX9_beat_75 : decode cX9_beat 75 = .ok (.aload_n 0, 1) := by decide +kernel
theorem dX9_beat_76 : decode cX9_beat 76 = .ok (.getfield 38, 3) := by decide +kernel
theorem dX9_beat_79 : decode cX9_beat 79 = .ok (.iload_n 1, 1) := by decide +kernel
theorem dX9_beat_80 : decode cX9_beat 80 = .ok (.aaload, 1) := by decide +kernel
theorem dX9_beat_81 : decode cX9_beat 81 = .ok (.astore 4, 2) := by decide +kernel
theorem dX9_beat_83 : decode cX9_beat 83 = .ok (.aload_n 0, 1) := by decide +kernel
theorem dX9_beat_84 : decode cX9_beat 84 = .ok (.getfield 38, 3) := by decide +kernel
theorem dX9_beat_87 : decode cX9_beat 87 = .ok (.iload_n 1, 1) := by decide +kernel
theorem dX9_beat_88 : decode cX9_beat 88 = .ok (.aload_n 0, 1) := by decide +kernel
theorem dX9_beat_89 : decode cX9_beat 89 = .ok (.getfield 68, 3) := by decide +kernel
theorem dX9_beat_92 : decode cX9_beat 92 = .ok (.aastore, 1) := by decide +kernel
theorem dX9_beat_93 : decode cX9_beat 93 = .ok (.aload_n 0, 1) := by decide +kernel
theorem dX9_beat_94 : decode cX9_beat 94 = .ok (.aload 4, 2) := by decide +kernel
theorem dX9_beat_96 : decode cX9_beat 96 = .ok (.putfield 68, 3) := by decide +kernel
theorem dX9_beat_99 : decode cX9_beat 99 = .ok (.aload_n 0, 1) := by decide +kernel
theorem dX9_beat_100 : decode cX9_beat 100 = .ok (.getfield 10, 3) := by decide +kernel
theorem dX9_beat_103 : decode cX9_beat 103 = .ok (.iload_n 3, 1) := by decide +kernel
theorem dX9_beat_104 : decode cX9_beat 104 = .ok (.invokevirtual 149, 3) := by decide +kernel
theorem dX9_beat_107 : decode cX9_beat 107 = .ok (.ireturn, 1) := by decide +kernel
set_option maxRecDepth 20000 in
theorem ggX9_pleas_X9_within : GoodIn wsX9_pleas wsX9_within := goodIn_r _ [9] (by decide +kernel) (by decide +kernel)
set_option maxRecDepth 20000 in
theorem gX9_pleas_X9_within : GoodIn wsX9_pleas (va_wsS RX9 90 yX9_within wsX9_within) := goodIn_app (goodIn_of _ (by decide +kernel)) ggX9_pleas_X9_within
set_option maxRecDepth 20000 in
theorem ggX9_pleas_X7_holds : GoodIn wsX9_pleas wsX7_holds := goodIn_r _ [14, 15, 146, 147, 148, 149, 150, 151] (by decide +kernel) (by decide +kernel)
set_option maxRecDepth 20000 in
theorem gX9_pleas_X7_holds : GoodIn wsX9_pleas (wsV RX9 132 RX7 yX7_holds wsX7_holds) := goodIn_app (goodIn_of _ (by decide +kernel)) ggX9_pleas_X7_holds
set_option maxRecDepth 20000 in
theorem ggX9_pleas_X7_open : GoodIn wsX9_pleas wsX7_open := goodIn_r _ [19, 15, 20, 21, 22, 23, 146, 147, 148, 149, 150, 151] (by decide +kernel) (by decide +kernel)
set_option maxRecDepth 20000 in
theorem gX9_pleas_X7_open : GoodIn wsX9_pleas (wsV RX9 135 RX7 yX7_open wsX7_open) := goodIn_app (goodIn_of _ (by decide +kernel)) ggX9_pleas_X7_open
set_option maxRecDepth 20000 in
theorem ggX9_pleas_X3_read : GoodIn wsX9_pleas wsX3_read := goodIn_r _ [28, 29, 30, 31, 32, 27, 33, 34, 35, 36, 37, 38, 39, 13, 40, 21, 20, 41, 42, 8, 43, 44, 45, 46, 7, 9, 47, 48, 49, 50, 51, 52, 53, 54, 22, 23, 55, 56, 57, 58, 59, 60, 61, 62, 6, 63, 64, 65, 66, 67, 68, 69, 70, 71, 72, 73, 74, 75, 76, 77, 78, 79, 80, 81, 82, 83, 84, 85, 86, 87, 88, 89, 90, 91, 92, 93, 94, 95, 96, 97, 142, 143, 144, 145, 146, 147, 148, 149, 150, 151, 152, 153, 154, 155] (by decide +kernel) (by decide +kernel)
set_option maxRecDepth 20000 in
theorem gX9_pleas_X3_read : GoodIn wsX9_pleas (wsV RX9 155 RX3 yX3_read wsX3_read) := goodIn_app (goodIn_of _ (by decide +kernel)) ggX9_pleas_X3_read
set_option maxRecDepth 20000 in
theorem ggX9_pleas_X7_isFine : GoodIn wsX9_pleas wsX7_isFine := goodIn_r _ [66, 22, 146, 147, 148, 149, 150, 151] (by decide +kernel) (by decide +kernel)
set_option maxRecDepth 20000 in
theorem gX9_pleas_X7_isFine : GoodIn wsX9_pleas (wsV RX9 142 RX7 yX7_isFine wsX7_isFine) := goodIn_app (goodIn_of _ (by decide +kernel)) ggX9_pleas_X7_isFine
set_option maxRecDepth 20000 in
theorem ggX9_pleas_X3_grant : GoodIn wsX9_pleas wsX3_grant := goodIn_r _ [102, 29, 34, 36, 103, 35, 104, 42, 8, 43, 105, 106, 107, 108, 109, 110, 111, 112, 113, 87, 88, 114, 115, 116, 58, 117, 118, 119, 120, 121, 122, 142, 143, 144, 145, 156, 157, 158, 159, 160, 161, 162, 163, 164, 165, 152, 153, 154, 155] (by decide +kernel) (by decide +kernel)
set_option maxRecDepth 20000 in
theorem gX9_pleas_X3_grant : GoodIn wsX9_pleas (wsV RX9 158 RX3 yX3_grant wsX3_grant) := goodIn_app (goodIn_of _ (by decide +kernel)) ggX9_pleas_X3_grant
set_option maxRecDepth 20000 in
theorem ggX9_pleas_X7_answer : GoodIn wsX9_pleas wsX7_answer := goodIn_r _ [126, 22, 23, 146, 147, 148, 149, 150, 151] (by decide +kernel) (by decide +kernel)
set_option maxRecDepth 20000 in
theorem gX9_pleas_X7_answer : GoodIn wsX9_pleas (wsV RX9 149 RX7 yX7_answer wsX7_answer) := goodIn_app (goodIn_of _ (by decide +kernel)) ggX9_pleas_X7_answer
theorem dX9_pleas_0 : decode cX9_pleas 0 = .ok (.iload_n 1, 1) := by decide +kernel
theorem dX9_pleas_1 : decode cX9_pleas 1 = .ok (.iconst 1, 1) := by decide +kernel
theorem dX9_pleas_2 : decode cX9_pleas 2 = .ok (.bipush 120, 2) := by decide +kernel
theorem dX9_pleas_4 : decode cX9_pleas 4 = .ok (.invokestatic 90, 3) := by decide +kernel
theorem dX9_pleas_7 : decode cX9_pleas 7 = .ok (.ifCond .eq 14, 3) := by decide +kernel
theorem dX9_pleas_10 : decode cX9_pleas 10 = .ok (.aload_n 0, 1) := by decide +kernel
theorem dX9_pleas_11 : decode cX9_pleas 11 = .ok (.getfield 10, 3) := by decide +kernel
theorem dX9_pleas_14 : decode cX9_pleas 14 = .ok (.iload_n 1, 1) := by decide +kernel
theorem dX9_pleas_15 : decode cX9_pleas 15 = .ok (.invokevirtual 132, 3) := by decide +kernel
theorem dX9_pleas_18 : decode cX9_pleas 18 = .ok (.ifCond .ne 5, 3) := by decide +kernel
theorem dX9_pleas_21 : decode cX9_pleas 21 = .ok (.iconst (-1), 1) := by decide +kernel
theorem dX9_pleas_22 : decode cX9_pleas 22 = .ok (.ireturn, 1) := by decide +kernel
theorem dX9_pleas_23 : decode cX9_pleas 23 = .ok (.aload_n 0, 1) := by decide +kernel
theorem dX9_pleas_24 : decode cX9_pleas 24 = .ok (.getfield 10, 3) := by decide +kernel
theorem dX9_pleas_27 : decode cX9_pleas 27 = .ok (.iload_n 1, 1) := by decide +kernel
theorem dX9_pleas_28 : decode cX9_pleas 28 = .ok (.invokevirtual 135, 3) := by decide +kernel
theorem dX9_pleas_31 : decode cX9_pleas 31 = .ok (.aload_n 0, 1) := by decide +kernel
theorem dX9_pleas_32 : decode cX9_pleas 32 = .ok (.getfield 52, 3) := by decide +kernel
theorem dX9_pleas_35 : decode cX9_pleas 35 = .ok (.aload_n 0, 1) := by decide +kernel
theorem dX9_pleas_36 : decode cX9_pleas 36 = .ok (.getfield 10, 3) := by decide +kernel
theorem dX9_pleas_39 : decode cX9_pleas 39 = .ok (.aload_n 0, 1) := by decide +kernel
theorem dX9_pleas_40 : decode cX9_pleas 40 = .ok (.getfield 19, 3) := by decide +kernel
theorem dX9_pleas_43 : decode cX9_pleas 43 = .ok (.invokevirtual 155, 3) := by decide +kernel
theorem dX9_pleas_46 : decode cX9_pleas 46 = .ok (.aload_n 0, 1) := by decide +kernel
theorem dX9_pleas_47 : decode cX9_pleas 47 = .ok (.getfield 10, 3) := by decide +kernel
theorem dX9_pleas_50 : decode cX9_pleas 50 = .ok (.invokevirtual 142, 3) := by decide +kernel
theorem dX9_pleas_53 : decode cX9_pleas 53 = .ok (.ifCond .eq 18, 3) := by decide +kernel
theorem dX9_pleas_56 : decode cX9_pleas 56 = .ok (.aload_n 0, 1) := by decide +kernel
theorem dX9_pleas_57 : decode cX9_pleas 57 = .ok (.getfield 52, 3) := by decide +kernel
theorem dX9_pleas_60 : decode cX9_pleas 60 = .ok (.aload_n 0, 1) := by decide +kernel
theorem dX9_pleas_61 : decode cX9_pleas 61 = .ok (.getfield 26, 3) := by decide +kernel
theorem dX9_pleas_64 : decode cX9_pleas 64 = .ok (.aload_n 0, 1) := by decide +kernel
theorem dX9_pleas_65 : decode cX9_pleas 65 = .ok (.getfield 19, 3) := by decide +kernel
theorem dX9_pleas_68 : decode cX9_pleas 68 = .ok (.invokevirtual 158, 3) := by decide +kernel
theorem dX9_pleas_71 : decode cX9_pleas 71 = .ok (.aload_n 0, 1) := by decide +kernel
theorem dX9_pleas_72 : decode cX9_pleas 72 = .ok (.getfield 10, 3) := by decide +kernel
theorem dX9_pleas_75 : decode cX9_pleas 75 = .ok (.aload_n 0, 1) := by decide +kernel
theorem dX9_pleas_76 : decode cX9_pleas 76 = .ok (.getfield 52, 3) := by decide +kernel
theorem dX9_pleas_79 : decode cX9_pleas 79 = .ok (.getfield 162, 3) := by decide +kernel
theorem dX9_pleas_82 : decode cX9_pleas 82 = .ok (.invokevirtual 149, 3) := by decide +kernel
theorem dX9_pleas_85 : decode cX9_pleas 85 = .ok (.ireturn, 1) := by decide +kernel
set_option maxRecDepth 20000 in
theorem ggX9_hours_X9_isHours : GoodIn wsX9_hours wsX9_isHours := goodIn_r _ [7, 8, 9, 6, 10] (by decide +kernel) (by decide +kernel)
set_option maxRecDepth 20000 in
theorem gX9_hours_X9_isHours : GoodIn wsX9_hours (va_wsS RX9 165 yX9_isHours wsX9_isHours) := goodIn_app (goodIn_of _ (by decide +kernel)) ggX9_hours_X9_isHours
set_option maxRecDepth 20000 in
theorem ggX9_hours_X9_passes : GoodIn wsX9_hours wsX9_passes := goodIn_r _ [14, 2, 15, 16, 17, 18, 19, 20, 21, 22, 23, 24, 25, 26, 27, 28, 29, 30, 31, 32, 33, 34, 35, 36, 9, 6, 10, 37, 38, 8, 39, 40, 41, 42, 43, 44, 45, 46, 47, 48, 49, 50, 51, 52, 53, 54, 55, 56, 57, 58, 59, 60, 61, 62, 63, 64, 65, 66, 67, 68, 69, 70, 71, 72, 73, 74, 75, 76, 77, 78, 79, 80, 81, 82, 83, 84, 85, 86, 87, 88, 89, 90, 91, 92, 93, 94, 95, 96, 97, 98, 99, 100, 101, 102, 103, 104, 105, 106, 107, 108, 109, 110, 111, 112, 113, 114, 115, 116, 117, 118, 119, 120, 121, 122, 123, 124, 125, 126, 127, 128, 129, 130, 131, 132, 133, 134, 135, 136, 137, 138, 139, 140, 141, 142, 143, 144, 145, 146, 147, 148, 149, 150, 151, 152, 153, 154, 155, 156, 157, 158, 159, 160, 161, 162, 163, 164, 165, 166, 167, 168, 169, 170, 171, 172, 173, 174] (by decide +kernel) (by decide +kernel)
set_option maxRecDepth 20000 in
theorem gX9_hours_X9_passes : GoodIn wsX9_hours (wsV RX9 168 RX9 yX9_passes wsX9_passes) := goodIn_app (goodIn_of _ (by decide +kernel)) ggX9_hours_X9_passes
theorem dX9_hours_0 : decode cX9_hours 0 = .ok (.iload_n 1, 1) := by decide +kernel
theorem dX9_hours_1 : decode cX9_hours 1 = .ok (.invokestatic 165, 3) := by decide +kernel
theorem dX9_hours_4 : decode cX9_hours 4 = .ok (.ifCond .ne 5, 3) := by decide +kernel
theorem dX9_hours_7 : decode cX9_hours 7 = .ok (.iconst (-1), 1) := by decide +kernel
theorem dX9_hours_8 : decode cX9_hours 8 = .ok (.ireturn, 1) := by decide +kernel
theorem dX9_hours_9 : decode cX9_hours 9 = .ok (.iconst 0, 1) := by decide +kernel
theorem dX9_hours_10 : decode cX9_hours 10 = .ok (.istore_n 2, 1) := by decide +kernel
theorem dX9_hours_11 : decode cX9_hours 11 = .ok (.iconst 0, 1) := by decide +kernel
theorem dX9_hours_12 : decode cX9_hours 12 = .ok (.istore_n 3, 1) := by decide +kernel
theorem dX9_hours_13 : decode cX9_hours 13 = .ok (.iload_n 3, 1) := by decide +kernel
theorem dX9_hours_14 : decode cX9_hours 14 = .ok (.iload_n 1, 1) := by decide +kernel
theorem dX9_hours_15 : decode cX9_hours 15 = .ok (.if_icmp .ge 30, 3) := by decide +kernel
theorem dX9_hours_18 : decode cX9_hours 18 = .ok (.aload_n 0, 1) := by decide +kernel
theorem dX9_hours_19 : decode cX9_hours 19 = .ok (.aload_n 0, 1) := by decide +kernel
theorem dX9_hours_20 : decode cX9_hours 20 = .ok (.getfield 26, 3) := by decide +kernel
theorem dX9_hours_23 : decode cX9_hours 23 = .ok (.invokevirtual 168, 3) := by decide +kernel
theorem dX9_hours_26 : decode cX9_hours 26 = .ok (.ifCond .eq 19, 3) := by decide +kernel
theorem dX9_hours_29 : decode cX9_hours 29 = .ok (.iload_n 2, 1) := by decide +kernel
theorem dX9_hours_30 : decode cX9_hours 30 = .ok (.aload_n 0, 1) := by decide +kernel
theorem dX9_hours_31 : decode cX9_hours 31 = .ok (.getfield 45, 3) := by decide +kernel
theorem dX9_hours_34 : decode cX9_hours 34 = .ok (.getfield 172, 3) := by decide +kernel
theorem dX9_hours_37 : decode cX9_hours 37 = .ok (.iadd, 1) := by decide +kernel
theorem dX9_hours_38 : decode cX9_hours 38 = .ok (.istore_n 2, 1) := by decide +kernel
theorem dX9_hours_39 : decode cX9_hours 39 = .ok (.iinc 3 1, 3) := by decide +kernel
theorem dX9_hours_42 : decode cX9_hours 42 = .ok (.goto (-29), 3) := by decide +kernel
theorem dX9_hours_45 : decode cX9_hours 45 = .ok (.iload_n 2, 1) := by decide +kernel
theorem dX9_hours_46 : decode cX9_hours 46 = .ok (.ireturn, 1) := by decide +kernel
set_option maxRecDepth 20000 in
theorem ggX9_tried_X9_isHours : GoodIn wsX9_tried wsX9_isHours := goodIn_r _ [13, 14, 15, 12, 16] (by decide +kernel) (by decide +kernel)
set_option maxRecDepth 20000 in
theorem gX9_tried_X9_isHours : GoodIn wsX9_tried (va_wsS RX9 165 yX9_isHours wsX9_isHours) := goodIn_app (goodIn_of _ (by decide +kernel)) ggX9_tried_X9_isHours
set_option maxRecDepth 20000 in
theorem ggX9_tried_X9_canBeTried : GoodIn wsX9_tried wsX9_canBeTried := goodIn_r _ [20, 21, 2, 14, 15, 12, 16, 22, 23, 24, 25, 26, 27, 28, 29, 30, 31, 32, 33, 34, 35, 155, 156, 157, 158, 159, 160, 161, 162, 163, 164, 165, 166, 167, 168, 169, 184, 185, 186, 187, 174, 175, 176, 177, 178, 179, 180, 181, 182, 183] (by decide +kernel) (by decide +kernel)
set_option maxRecDepth 20000 in
theorem gX9_tried_X9_canBeTried : GoodIn wsX9_tried (wsV RX9 175 RX9 yX9_canBeTried wsX9_canBeTried) := goodIn_app (goodIn_of _ (by decide +kernel)) ggX9_tried_X9_canBeTried
set_option maxRecDepth 20000 in
theorem ggX9_tried_X6_copy : GoodIn wsX9_tried wsX6_copy := goodIn_r _ [39, 40, 41, 42, 43, 44, 35, 45, 46, 47, 48, 49, 12, 50, 51, 52, 174, 175, 176, 177, 178, 179, 180, 181, 182, 183] (by decide +kernel) (by decide +kernel)
set_option maxRecDepth 20000 in
theorem gX9_tried_X6_copy : GoodIn wsX9_tried (wsV RX9 178 RX6 yX6_copy wsX6_copy) := goodIn_app (goodIn_of _ (by decide +kernel)) ggX9_tried_X6_copy
set_option maxRecDepth 20000 in
theorem ggX9_tried_X9_passes : GoodIn wsX9_tried wsX9_passes := goodIn_r _ [56, 3, 57, 21, 58, 59, 60, 61, 62, 63, 64, 65, 66, 67, 68, 69, 70, 71, 72, 31, 32, 33, 34, 35, 15, 12, 16, 28, 29, 14, 73, 74, 75, 76, 77, 78, 79, 80, 81, 82, 83, 49, 50, 84, 23, 24, 25, 26, 27, 51, 52, 85, 86, 87, 88, 89, 90, 91, 92, 93, 94, 95, 96, 97, 98, 99, 100, 101, 102, 103, 104, 105, 106, 107, 108, 109, 110, 111, 112, 113, 114, 115, 116, 117, 118, 119, 120, 121, 122, 123, 124, 125, 126, 127, 128, 129, 130, 131, 132, 133, 134, 135, 136, 137, 138, 139, 140, 141, 142, 143, 144, 145, 146, 147, 48, 148, 149, 150, 151, 152, 153, 155, 156, 157, 158, 159, 160, 161, 162, 163, 164, 165, 166, 167, 168, 169, 170, 171, 172, 173, 174, 175, 176, 177, 178, 179, 180, 181, 182, 183, 184, 185, 186, 187, 188, 189, 190, 191, 192, 193, 194, 195, 196, 197, 198, 199] (by decide +kernel) (by decide +kernel)
set_option maxRecDepth 20000 in
theorem gX9_tried_X9_passes : GoodIn wsX9_tried (wsV RX9 168 RX9 yX9_passes wsX9_passes) := goodIn_app (goodIn_of _ (by decide +kernel)) ggX9_tried_X9_passes
set_option maxRecDepth 20000 in
theorem ggX9_tried_X9_at : GoodIn wsX9_tried wsX9_at := goodIn_r _ [50] (by decide +kernel) (by decide +kernel)
set_option maxRecDepth 20000 in
theorem gX9_tried_X9_at : GoodIn wsX9_tried (va_wsS RX9 188 yX9_at wsX9_at) := goodIn_app (goodIn_of _ (by decide +kernel)) ggX9_tried_X9_at
theorem dX9_tried_0 : decode cX9_tried 0 = .ok (.iload_n 1, 1) := by decide +kernel
theorem dX9_tried_1 : decode cX9_tried 1 = .ok (.invokestatic 165, 3) := by decide +kernel
theorem dX9_tried_4 : decode cX9_tried 4 = .ok (.ifCond .eq 11, 3) := by decide +kernel
theorem dX9_tried_7 : decode cX9_tried 7 = .ok (.aload_n 0, 1) := by decide +kernel
theorem dX9_tried_8 : decode cX9_tried 8 = .ok (.iload_n 2, 1) := by decide +kernel
theorem dX9_tried_9 : decode cX9_tried 9 = .ok (.invokevirtual 175, 3) := by decide +kernel
theorem dX9_tried_12 : decode cX9_tried 12 = .ok (.ifCond .ne 5, 3) := by decide +kernel
theorem dX9_tried_15 : decode cX9_tried 15 = .ok (.iconst (-1), 1) := by decide +kernel
theorem dX9_tried_16 : decode cX9_tried 16 = .ok (.ireturn, 1) := by decide +kernel
theorem dX9_tried_17 : decode cX9_tried 17 = .ok (.iconst 0, 1) := by decide +kernel
theorem dX9_tried_18 : decode cX9_tried 18 = .ok (.istore_n 3, 1) := by decide +kernel
theorem dX9_tried_19 : decode cX9_tried 19 = .ok (.iconst 0, 1) := by decide +kernel
theorem dX9_tried_20 : decode cX9_tried 20 = .ok (.istore 4, 2) := by decide +kernel
theorem dX9_tried_22 : decode cX9_tried 22 = .ok (.aload_n 0, 1) := by decide +kernel
theorem dX9_tried_23 : decode cX9_tried 23 = .ok (.getfield 30, 3) := by decide +kernel
theorem dX9_tried_26 : decode cX9_tried 26 = .ok (.aload_n 0, 1) := by decide +kernel
theorem dX9_tried_27 : decode cX9_tried 27 = .ok (.getfield 26, 3) := by decide +kernel
theorem dX9_tried_30 : decode cX9_tried 30 = .ok (.invokevirtual 178, 3) := by decide +kernel
theorem dX9_tried_33 : decode cX9_tried 33 = .ok (.iconst 0, 1) := by decide +kernel
theorem dX9_tried_34 : decode cX9_tried 34 = .ok (.istore 5, 2) := by decide +kernel
theorem dX9_tried_36 : decode cX9_tried 36 = .ok (.iload 5, 2) := by decide +kernel
theorem dX9_tried_38 : decode cX9_tried 38 = .ok (.iload_n 1, 1) := by decide +kernel
theorem dX9_tried_39 : decode cX9_tried 39 = .ok (.if_icmp .ge 42, 3) := by decide +kernel
theorem dX9_tried_42 : decode cX9_tried 42 = .ok (.aload_n 0, 1) := by decide +kernel
theorem dX9_tried_43 : decode cX9_tried 43 = .ok (.aload_n 0, 1) := by decide +kernel
theorem dX9_tried_44 : decode cX9_tried 44 = .ok (.getfield 30, 3) := by decide +kernel
theorem dX9_tried_47 : decode cX9_tried 47 = .ok (.invokevirtual 168, 3) := by decide +kernel
theorem dX9_tried_50 : decode cX9_tried 50 = .ok (.ifCond .eq 31, 3) := by decide +kernel
theorem dX9_tried_53 : decode cX9_tried 53 = .ok (.iload_n 3, 1) := by decide +kernel
theorem dX9_tried_54 : decode cX9_tried 54 = .ok (.aload_n 0, 1) := by decide +kernel
theorem dX9_tried_55 : decode cX9_tried 55 = .ok (.getfield 45, 3) := by decide +kernel
theorem dX9_tried_58 : decode cX9_tried 58 = .ok (.getfield 172, 3) := by decide +kernel
theorem dX9_tried_61 : decode cX9_tried 61 = .ok (.iadd, 1) := by decide +kernel
theorem dX9_tried_62 : decode cX9_tried 62 = .ok (.istore_n 3, 1) := by decide +kernel
theorem dX9_tried_63 : decode cX9_tried 63 = .ok (.iload 4, 2) := by decide +kernel
theorem dX9_tried_65 : decode cX9_tried 65 = .ok (.aload_n 0, 1) := by decide +kernel
theorem dX9_tried_66 : decode cX9_tried 66 = .ok (.getfield 45, 3) := by decide +kernel
theorem dX9_tried_69 : decode cX9_tried 69 = .ok (.getfield 182, 3) := by decide +kernel
theorem dX9_tried_72 : decode cX9_tried 72 = .ok (.iadd, 1) := by decide +kernel
theorem dX9_tried_73 : decode cX9_tried 73 = .ok (.istore 4, 2) := by decide +kernel
theorem dX9_tried_75 : decode cX9_tried 75 = .ok (.iinc 5 1, 3) := by decide +kernel
theorem dX9_tried_78 : decode cX9_tried 78 = .ok (.goto (-42), 3) := by decide +kernel
theorem dX9_tried_81 : decode cX9_tried 81 = .ok (.iload_n 2, 1) := by decide +kernel
theorem dX9_tried_82 : decode cX9_tried 82 = .ok (.ifCond .ne 5, 3) := by decide +kernel
theorem dX9_tried_85 : decode cX9_tried 85 = .ok (.iload_n 3, 1) := by decide +kernel
theorem dX9_tried_86 : decode cX9_tried 86 = .ok (.ireturn, 1) := by decide +kernel
theorem dX9_tried_87 : decode cX9_tried 87 = .ok (.iload_n 2, 1) := by decide +kernel
theorem dX9_tried_88 : decode cX9_tried 88 = .ok (.iconst 1, 1) := by decide +kernel
theorem dX9_tried_89 : decode cX9_tried 89 = .ok (.if_icmp .ne 6, 3) := by decide +kernel
theorem dX9_tried_92 : decode cX9_tried 92 = .ok (.iload 4, 2) := by decide +kernel
theorem dX9_tried_94 : decode cX9_tried 94 = .ok (.ireturn, 1) := by decide +kernel
theorem dX9_tried_95 : decode cX9_tried 95 = .ok (.iload_n 2, 1) := by decide +kernel
theorem dX9_tried_96 : decode cX9_tried 96 = .ok (.iconst 2, 1) := by decide +kernel
theorem dX9_tried_97 : decode cX9_tried 97 = .ok (.if_icmp .ne 19, 3) := by decide +kernel
theorem dX9_tried_100 : decode cX9_tried 100 = .ok (.aload_n 0, 1) := by decide +kernel
theorem dX9_tried_101 : decode cX9_tried 101 = .ok (.getfield 30, 3) := by decide +kernel
theorem dX9_tried_104 : decode cX9_tried 104 = .ok (.getfield 185, 3) := by decide +kernel
theorem dX9_tried_107 : decode cX9_tried 107 = .ok (.aload_n 0, 1) := by decide +kernel
theorem dX9_tried_108 : decode cX9_tried 108 = .ok (.getfield 26, 3) := by decide +kernel
theorem dX9_tried_111 : decode cX9_tried 111 = .ok (.getfield 185, 3) := by decide +kernel
theorem dX9_tried_114 : decode cX9_tried 114 = .ok (.isub, 1) := by decide +kernel
theorem dX9_tried_115 : decode cX9_tried 115 = .ok (.ireturn, 1) := by decide +kernel
theorem dX9_tried_116 : decode cX9_tried 116 = .ok (.iload_n 2, 1) := by decide +kernel
theorem dX9_tried_117 : decode cX9_tried 117 = .ok (.bipush 20, 2) := by decide +kernel
theorem dX9_tried_119 : decode cX9_tried 119 = .ok (.if_icmp .ge 18, 3) := by decide +kernel
theorem dX9_tried_122 : decode cX9_tried 122 = .ok (.aload_n 0, 1) := by decide +kernel
theorem dX9_tried_123 : decode cX9_tried 123 = .ok (.getfield 30, 3) := by decide +kernel
theorem dX9_tried_126 : decode cX9_tried 126 = .ok (.getfield 115, 3) := by decide +kernel
theorem dX9_tried_129 : decode cX9_tried 129 = .ok (.iload_n 2, 1) := by decide +kernel
theorem dX9_tried_130 : decode cX9_tried 130 = .ok (.bipush 10, 2) := by decide +kernel
theorem dX9_tried_132 : decode cX9_tried 132 = .ok (.isub, 1) := by decide +kernel
theorem dX9_tried_133 : decode cX9_tried 133 = .ok (.invokestatic 188, 3) := by decide +kernel
theorem dX9_tried_136 : decode cX9_tried 136 = .ok (.ireturn, 1) := by decide +kernel
theorem dX9_tried_137 : decode cX9_tried 137 = .ok (.iload_n 2, 1) := by decide +kernel
theorem dX9_tried_138 : decode cX9_tried 138 = .ok (.bipush 30, 2) := by decide +kernel
theorem dX9_tried_140 : decode cX9_tried 140 = .ok (.if_icmp .ge 20, 3) := by decide +kernel
theorem dX9_tried_143 : decode cX9_tried 143 = .ok (.aload_n 0, 1) := by decide +kernel
theorem dX9_tried_144 : decode cX9_tried 144 = .ok (.getfield 30, 3) := by decide +kernel
theorem dX9_tried_147 : decode cX9_tried 147 = .ok (.getfield 118, 3) := by decide +kernel
theorem dX9_tried_150 : decode cX9_tried 150 = .ok (.iload_n 2, 1) := by decide +kernel
theorem dX9_tried_151 : decode cX9_tried 151 = .ok (.bipush 20, 2) := by decide +kernel
theorem dX9_tried_153 : decode cX9_tried 153 = .ok (.isub, 1) := by decide +kernel
theorem dX9_tried_154 : decode cX9_tried 154 = .ok (.invokestatic 188, 3) := by decide +kernel
theorem dX9_tried_157 : decode cX9_tried 157 = .ok (.goto 17, 3) := by decide +kernel
theorem dX9_tried_160 : decode cX9_tried 160 = .ok (.aload_n 0, 1) := by decide +kernel
theorem dX9_tried_161 : decode cX9_tried 161 = .ok (.getfield 30, 3) := by decide +kernel
theorem dX9_tried_164 : decode cX9_tried 164 = .ok (.getfield 192, 3) := by decide +kernel
theorem dX9_tried_167 : decode cX9_tried 167 = .ok (.iload_n 2, 1) := by decide +kernel
theorem dX9_tried_168 : decode cX9_tried 168 = .ok (.bipush 30, 2) := by decide +kernel
theorem dX9_tried_170 : decode cX9_tried 170 = .ok (.isub, 1) := by decide +kernel
theorem dX9_tried_171 : decode cX9_tried 171 = .ok (.invokestatic 188, 3) := by decide +kernel
theorem dX9_tried_174 : decode cX9_tried 174 = .ok (.ireturn, 1) := by decide +kernel
set_option maxRecDepth 20000 in
theorem ggX9_canBeTried_X9_within : GoodIn wsX9_canBeTried wsX9_within := goodIn_r _ [6] (by decide +kernel) (by decide +kernel)
set_option maxRecDepth 20000 in
theorem gX9_canBeTried_X9_within : GoodIn wsX9_canBeTried (va_wsS RX9 90 yX9_within wsX9_within) := goodIn_app (goodIn_of _ (by decide +kernel)) ggX9_canBeTried_X9_within
set_option maxRecDepth 20000 in
theorem ggX9_canBeTried_X1_isTold : GoodIn wsX9_canBeTried wsX1_isTold := goodIn_r _ [11, 12, 4, 5, 6, 13, 14, 3, 36, 37, 38, 39] (by decide +kernel) (by decide +kernel)
set_option maxRecDepth 20000 in
theorem gX9_canBeTried_X1_isTold : GoodIn wsX9_canBeTried (wsV RX9 108 RX1 yX1_isTold wsX1_isTold) := goodIn_app (goodIn_of _ (by decide +kernel)) ggX9_canBeTried_X1_isTold
set_option maxRecDepth 20000 in
theorem ggX9_canBeTried_X6_isTold : GoodIn wsX9_canBeTried wsX6_isTold := goodIn_r _ [19, 20, 4, 5, 6, 13, 14, 3, 40, 41, 42, 43, 44, 45, 46, 47, 48, 49] (by decide +kernel) (by decide +kernel)
set_option maxRecDepth 20000 in
theorem gX9_canBeTried_X6_isTold : GoodIn wsX9_canBeTried (wsV RX9 195 RX6 yX6_isTold wsX6_isTold) := goodIn_app (goodIn_of _ (by decide +kernel)) ggX9_canBeTried_X6_isTold
theorem dX9_canBeTried_0 : decode cX9_canBeTried 0 = .ok (.iload_n 1, 1) := by decide +kernel
theorem dX9_canBeTried_1 : decode cX9_canBeTried 1 = .ok (.bipush 30, 2) := by decide +kernel
theorem dX9_canBeTried_3 : decode cX9_canBeTried 3 = .ok (.bipush 45, 2) := by decide +kernel
theorem dX9_canBeTried_5 : decode cX9_canBeTried 5 = .ok (.invokestatic 90, 3) := by decide +kernel
theorem dX9_canBeTried_8 : decode cX9_canBeTried 8 = .ok (.ifCond .eq 15, 3) := by decide +kernel
theorem dX9_canBeTried_11 : decode cX9_canBeTried 11 = .ok (.aload_n 0, 1) := by decide +kernel
theorem dX9_canBeTried_12 : decode cX9_canBeTried 12 = .ok (.getfield 19, 3) := by decide +kernel
theorem dX9_canBeTried_15 : decode cX9_canBeTried 15 = .ok (.iload_n 1, 1) := by decide +kernel
theorem dX9_canBeTried_16 : decode cX9_canBeTried 16 = .ok (.bipush 30, 2) := by decide +kernel
theorem dX9_canBeTried_18 : decode cX9_canBeTried 18 = .ok (.isub, 1) := by decide +kernel
theorem dX9_canBeTried_19 : decode cX9_canBeTried 19 = .ok (.invokevirtual 108, 3) := by decide +kernel
theorem dX9_canBeTried_22 : decode cX9_canBeTried 22 = .ok (.ireturn, 1) := by decide +kernel
theorem dX9_canBeTried_23 : decode cX9_canBeTried 23 = .ok (.iload_n 1, 1) := by decide +kernel
theorem dX9_canBeTried_24 : decode cX9_canBeTried 24 = .ok (.bipush 20, 2) := by decide +kernel
theorem dX9_canBeTried_26 : decode cX9_canBeTried 26 = .ok (.bipush 27, 2) := by decide +kernel
theorem dX9_canBeTried_28 : decode cX9_canBeTried 28 = .ok (.invokestatic 90, 3) := by decide +kernel
theorem dX9_canBeTried_31 : decode cX9_canBeTried 31 = .ok (.ifCond .eq 15, 3) := by decide +kernel
theorem dX9_canBeTried_34 : decode cX9_canBeTried 34 = .ok (.aload_n 0, 1) := by decide +kernel
theorem dX9_canBeTried_35 : decode cX9_canBeTried 35 = .ok (.getfield 26, 3) := by decide +kernel
theorem dX9_canBeTried_38 : decode cX9_canBeTried 38 = .ok (.iload_n 1, 1) := by decide +kernel
theorem dX9_canBeTried_39 : decode cX9_canBeTried 39 = .ok (.bipush 20, 2) := by decide +kernel
theorem dX9_canBeTried_41 : decode cX9_canBeTried 41 = .ok (.isub, 1) := by decide +kernel
theorem dX9_canBeTried_42 : decode cX9_canBeTried 42 = .ok (.invokevirtual 195, 3) := by decide +kernel
theorem dX9_canBeTried_45 : decode cX9_canBeTried 45 = .ok (.ireturn, 1) := by decide +kernel
theorem dX9_canBeTried_46 : decode cX9_canBeTried 46 = .ok (.iload_n 1, 1) := by decide +kernel
theorem dX9_canBeTried_47 : decode cX9_canBeTried 47 = .ok (.iconst 0, 1) := by decide +kernel
theorem dX9_canBeTried_48 : decode cX9_canBeTried 48 = .ok (.iconst 2, 1) := by decide +kernel
theorem dX9_canBeTried_49 : decode cX9_canBeTried 49 = .ok (.invokestatic 90, 3) := by decide +kernel
theorem dX9_canBeTried_52 : decode cX9_canBeTried 52 = .ok (.ifCond .ne 28, 3) := by decide +kernel
theorem dX9_canBeTried_55 : decode cX9_canBeTried 55 = .ok (.iload_n 1, 1) := by decide +kernel
theorem dX9_canBeTried_56 : decode cX9_canBeTried 56 = .ok (.bipush 10, 2) := by decide +kernel
theorem dX9_canBeTried_58 : decode cX9_canBeTried 58 = .ok (.bipush 17, 2) := by decide +kernel
theorem dX9_canBeTried_60 : decode cX9_canBeTried 60 = .ok (.invokestatic 90, 3) := by decide +kernel
theorem dX9_canBeTried_63 : decode cX9_canBeTried 63 = .ok (.ifCond .eq 21, 3) := by decide +kernel
theorem dX9_canBeTried_66 : decode cX9_canBeTried 66 = .ok (.aload_n 0, 1) := by decide +kernel
theorem dX9_canBeTried_67 : decode cX9_canBeTried 67 = .ok (.getfield 26, 3) := by decide +kernel
theorem dX9_canBeTried_70 : decode cX9_canBeTried 70 = .ok (.iload_n 1, 1) := by decide +kernel
theorem dX9_canBeTried_71 : decode cX9_canBeTried 71 = .ok (.bipush 10, 2) := by decide +kernel
theorem dX9_canBeTried_73 : decode cX9_canBeTried 73 = .ok (.isub, 1) := by decide +kernel
theorem dX9_canBeTried_74 : decode cX9_canBeTried 74 = .ok (.invokevirtual 195, 3) := by decide +kernel
theorem dX9_canBeTried_77 : decode cX9_canBeTried 77 = .ok (.ifCond .eq 7, 3) := by decide +kernel
theorem dX9_canBeTried_80 : decode cX9_canBeTried 80 = .ok (.iconst 1, 1) := by decide +kernel
theorem dX9_canBeTried_81 : decode cX9_canBeTried 81 = .ok (.goto 4, 3) := by decide +kernel
theorem dX9_canBeTried_84 : decode cX9_canBeTried 84 = .ok (.iconst 0, 1) := by decide +kernel
theorem dX9_canBeTried_85 : decode cX9_canBeTried 85 = .ok (.ireturn, 1) := by decide +kernel
set_option maxRecDepth 20000 in
theorem ggX9_alone_X1_isTold : GoodIn wsX9_alone wsX1_isTold := goodIn_r _ [12, 13, 14, 15, 16, 17, 18, 19, 163, 164, 165, 166] (by decide +kernel) (by decide +kernel)
set_option maxRecDepth 20000 in
theorem gX9_alone_X1_isTold : GoodIn wsX9_alone (wsV RX9 108 RX1 yX1_isTold wsX1_isTold) := goodIn_app (goodIn_of _ (by decide +kernel)) ggX9_alone_X1_isTold
set_option maxRecDepth 20000 in
theorem ggX9_alone_X9_isHours : GoodIn wsX9_alone wsX9_isHours := goodIn_r _ [22, 19, 14, 15, 16] (by decide +kernel) (by decide +kernel)
set_option maxRecDepth 20000 in
theorem gX9_alone_X9_isHours : GoodIn wsX9_alone (va_wsS RX9 165 yX9_isHours wsX9_isHours) := goodIn_app (goodIn_of _ (by decide +kernel)) ggX9_alone_X9_isHours
set_option maxRecDepth 20000 in
theorem ggX9_alone_X6_copy : GoodIn wsX9_alone wsX6_copy := goodIn_r _ [27, 28, 29, 30, 31, 32, 33, 34, 35, 36, 37, 38, 15, 39, 40, 41, 167, 168, 169, 170, 171, 172, 173, 174, 175, 176] (by decide +kernel) (by decide +kernel)
set_option maxRecDepth 20000 in
theorem gX9_alone_X6_copy : GoodIn wsX9_alone (wsV RX9 178 RX6 yX6_copy wsX6_copy) := goodIn_app (goodIn_of _ (by decide +kernel)) ggX9_alone_X6_copy
set_option maxRecDepth 20000 in
theorem ggX9_alone_X9_passes : GoodIn wsX9_alone wsX9_passes := goodIn_r _ [45, 46, 47, 1, 48, 49, 50, 51, 52, 53, 54, 55, 56, 57, 58, 59, 60, 61, 62, 63, 64, 26, 65, 33, 14, 15, 16, 17, 18, 19, 66, 67, 68, 69, 70, 71, 72, 73, 74, 75, 76, 38, 39, 77, 9, 10, 11, 12, 13, 40, 41, 78, 79, 80, 81, 82, 83, 84, 85, 6, 86, 87, 88, 89, 90, 91, 92, 93, 94, 95, 96, 97, 98, 99, 100, 101, 102, 103, 104, 105, 106, 107, 108, 109, 110, 111, 112, 113, 114, 115, 116, 117, 118, 119, 120, 121, 122, 123, 124, 125, 126, 127, 128, 129, 130, 131, 132, 4, 5, 7, 133, 134, 135, 136, 37, 137, 138, 139, 140, 141, 142, 148, 149, 150, 151, 152, 153, 154, 155, 156, 157, 158, 159, 160, 161, 162, 177, 178, 179, 180, 167, 168, 169, 170, 171, 172, 173, 174, 175, 176, 163, 164, 165, 166, 181, 182, 183, 184, 185, 186, 187, 188, 189, 190, 191, 192] (by decide +kernel) (by decide +kernel)
set_option maxRecDepth 20000 in
theorem gX9_alone_X9_passes : GoodIn wsX9_alone (wsV RX9 168 RX9 yX9_passes wsX9_passes) := goodIn_app (goodIn_of _ (by decide +kernel)) ggX9_alone_X9_passes
set_option maxRecDepth 20000 in
theorem ggX9_alone_X6_standAt : GoodIn wsX9_alone wsX6_standAt := goodIn_r _ [146, 31, 147, 63, 64, 26, 65, 33, 14, 15, 16, 17, 18, 19, 38, 39, 167, 168, 169, 170, 171, 172, 173, 174, 175, 176] (by decide +kernel) (by decide +kernel)
set_option maxRecDepth 20000 in
theorem gX9_alone_X6_standAt : GoodIn wsX9_alone (wsV RX9 196 RX6 yX6_standAt wsX6_standAt) := goodIn_app (goodIn_of _ (by decide +kernel)) ggX9_alone_X6_standAt
