theorem dX0_init_0 : decode cX0_init 0 = .ok (.aload_n 0, 1) := by decide +kernel
theorem dX0_init_1 : decode cX0_init 1 = .ok (.invokespecial 3, 3) := by decide +kernel
theorem dX0_init_4 : decode cX0_init 4 = .ok (.aload_n 0, 1) := by decide +kernel
theorem dX0_init_5 : decode cX0_init 5 = .ok (.bipush 48, 2) := by decide +kernel
theorem dX0_init_7 : decode cX0_init 7 = .ok (.newarray .int, 2) := by decide +kernel
theorem dX0_init_9 : decode cX0_init 9 = .ok (.putfield 11, 3) := by decide +kernel
theorem dX0_init_12 : decode cX0_init 12 = .ok (.aload_n 0, 1) := by decide +kernel
theorem dX0_init_13 : decode cX0_init 13 = .ok (.iconst 0, 1) := by decide +kernel
theorem dX0_init_14 : decode cX0_init 14 = .ok (.putfield 15, 3) := by decide +kernel
theorem dX0_init_17 : decode cX0_init 17 = .ok (.return_, 1) := by decide +kernel
theorem dX0_stepAt_0 : decode cX0_stepAt 0 = .ok (.aload_n 0, 1) := by decide +kernel
theorem dX0_stepAt_1 : decode cX0_stepAt 1 = .ok (.getfield 15, 3) := by decide +kernel
theorem dX0_stepAt_4 : decode cX0_stepAt 4 = .ok (.ifCond .le 21, 3) := by decide +kernel
theorem dX0_stepAt_7 : decode cX0_stepAt 7 = .ok (.aload_n 0, 1) := by decide +kernel
theorem dX0_stepAt_8 : decode cX0_stepAt 8 = .ok (.getfield 11, 3) := by decide +kernel
theorem dX0_stepAt_11 : decode cX0_stepAt 11 = .ok (.iload_n 1, 1) := by decide +kernel
theorem dX0_stepAt_12 : decode cX0_stepAt 12 = .ok (.aload_n 0, 1) := by decide +kernel
theorem dX0_stepAt_13 : decode cX0_stepAt 13 = .ok (.getfield 15, 3) := by decide +kernel
theorem dX0_stepAt_16 : decode cX0_stepAt 16 = .ok (.invokestatic 19, 3) := by decide +kernel
theorem dX0_stepAt_19 : decode cX0_stepAt 19 = .ok (.invokestatic 25, 3) := by decide +kernel
theorem dX0_stepAt_22 : decode cX0_stepAt 22 = .ok (.goto 4, 3) := by decide +kernel
theorem dX0_stepAt_25 : decode cX0_stepAt 25 = .ok (.iconst (-1), 1) := by decide +kernel
theorem dX0_stepAt_26 : decode cX0_stepAt 26 = .ok (.ireturn, 1) := by decide +kernel
theorem dX0_read_0 : decode cX0_read 0 = .ok (.aload_n 0, 1) := by decide +kernel
theorem dX0_read_1 : decode cX0_read 1 = .ok (.iconst 0, 1) := by decide +kernel
theorem dX0_read_2 : decode cX0_read 2 = .ok (.putfield 15, 3) := by decide +kernel
theorem dX0_read_5 : decode cX0_read 5 = .ok (.aload_n 0, 1) := by decide +kernel
theorem dX0_read_6 : decode cX0_read 6 = .ok (.aload_n 1, 1) := by decide +kernel
theorem dX0_read_7 : decode cX0_read 7 = .ok (.iconst 0, 1) := by decide +kernel
theorem dX0_read_8 : decode cX0_read 8 = .ok (.invokevirtual 29, 3) := by decide +kernel
theorem dX0_read_11 : decode cX0_read 11 = .ok (.aload_n 1, 1) := by decide +kernel
theorem dX0_read_12 : decode cX0_read 12 = .ok (.invokevirtual 33, 3) := by decide +kernel
theorem dX0_read_15 : decode cX0_read 15 = .ok (.ifCond .eq 16, 3) := by decide +kernel
theorem dX0_read_18 : decode cX0_read 18 = .ok (.aload_n 1, 1) := by decide +kernel
theorem dX0_read_19 : decode cX0_read 19 = .ok (.invokevirtual 39, 3) := by decide +kernel
theorem dX0_read_22 : decode cX0_read 22 = .ok (.iconst (-1), 1) := by decide +kernel
theorem dX0_read_23 : decode cX0_read 23 = .ok (.if_icmp .eq 8, 3) := by decide +kernel
theorem dX0_read_26 : decode cX0_read 26 = .ok (.aload_n 1, 1) := by decide +kernel
theorem dX0_read_27 : decode cX0_read 27 = .ok (.iconst 1, 1) := by decide +kernel
theorem dX0_read_28 : decode cX0_read 28 = .ok (.invokevirtual 43, 3) := by decide +kernel
theorem dX0_read_31 : decode cX0_read 31 = .ok (.return_, 1) := by decide +kernel
theorem dX0_items_0 : decode cX0_items 0 = .ok (.iconst 1, 1) := by decide +kernel
theorem dX0_items_1 : decode cX0_items 1 = .ok (.istore_n 3, 1) := by decide +kernel
theorem dX0_items_2 : decode cX0_items 2 = .ok (.iconst 0, 1) := by decide +kernel
theorem dX0_items_3 : decode cX0_items 3 = .ok (.istore 4, 2) := by decide +kernel
theorem dX0_items_5 : decode cX0_items 5 = .ok (.iload_n 3, 1) := by decide +kernel
theorem dX0_items_6 : decode cX0_items 6 = .ok (.ifCond .eq 52, 3) := by decide +kernel
theorem dX0_items_9 : decode cX0_items 9 = .ok (.iload 4, 2) := by decide +kernel
theorem dX0_items_11 : decode cX0_items 11 = .ok (.bipush 60, 2) := by decide +kernel
theorem dX0_items_13 : decode cX0_items 13 = .ok (.if_icmp .ge 45, 3) := by decide +kernel
theorem dX0_items_16 : decode cX0_items 16 = .ok (.aload_n 0, 1) := by decide +kernel
theorem dX0_items_17 : decode cX0_items 17 = .ok (.aload_n 1, 1) := by decide +kernel
theorem dX0_items_18 : decode cX0_items 18 = .ok (.iload_n 2, 1) := by decide +kernel
theorem dX0_items_19 : decode cX0_items 19 = .ok (.invokevirtual 47, 3) := by decide +kernel
theorem dX0_items_22 : decode cX0_items 22 = .ok (.aload_n 1, 1) := by decide +kernel
theorem dX0_items_23 : decode cX0_items 23 = .ok (.invokevirtual 33, 3) := by decide +kernel
theorem dX0_items_26 : decode cX0_items 26 = .ok (.ifCond .eq 24, 3) := by decide +kernel
theorem dX0_items_29 : decode cX0_items 29 = .ok (.aload_n 1, 1) := by decide +kernel
theorem dX0_items_30 : decode cX0_items 30 = .ok (.invokevirtual 39, 3) := by decide +kernel
theorem dX0_items_33 : decode cX0_items 33 = .ok (.iconst (-1), 1) := by decide +kernel
theorem dX0_items_34 : decode cX0_items 34 = .ok (.if_icmp .eq 16, 3) := by decide +kernel
theorem dX0_items_37 : decode cX0_items 37 = .ok (.aload_n 1, 1) := by decide +kernel
theorem dX0_items_38 : decode cX0_items 38 = .ok (.invokevirtual 39, 3) := by decide +kernel
theorem dX0_items_41 : decode cX0_items 41 = .ok (.bipush 41, 2) := by decide +kernel
theorem dX0_items_43 : decode cX0_items 43 = .ok (.if_icmp .eq 7, 3) := by decide +kernel
theorem dX0_items_46 : decode cX0_items 46 = .ok (.iconst 1, 1) := by decide +kernel
theorem dX0_items_47 : decode cX0_items 47 = .ok (.goto 4, 3) := by decide +kernel
theorem dX0_items_50 : decode cX0_items 50 = .ok (.iconst 0, 1) := by decide +kernel
theorem dX0_items_51 : decode cX0_items 51 = .ok (.istore_n 3, 1) := by decide +kernel
theorem dX0_items_52 : decode cX0_items 52 = .ok (.iinc 4 1, 3) := by decide +kernel
theorem dX0_items_55 : decode cX0_items 55 = .ok (.goto (-50), 3) := by decide +kernel
theorem dX0_items_58 : decode cX0_items 58 = .ok (.return_, 1) := by decide +kernel
theorem dX0_item_0 : decode cX0_item 0 = .ok (.aload_n 1, 1) := by decide +kernel
theorem dX0_item_1 : decode cX0_item 1 = .ok (.invokevirtual 50, 3) := by decide +kernel
theorem dX0_item_4 : decode cX0_item 4 = .ok (.istore_n 3, 1) := by decide +kernel
theorem dX0_item_5 : decode cX0_item 5 = .ok (.aload_n 0, 1) := by decide +kernel
theorem dX0_item_6 : decode cX0_item 6 = .ok (.getfield 15, 3) := by decide +kernel
theorem dX0_item_9 : decode cX0_item 9 = .ok (.istore 4, 2) := by decide +kernel
theorem dX0_item_11 : decode cX0_item 11 = .ok (.iconst 1, 1) := by decide +kernel
theorem dX0_item_12 : decode cX0_item 12 = .ok (.istore 5, 2) := by decide +kernel
theorem dX0_item_14 : decode cX0_item 14 = .ok (.aload_n 1, 1) := by decide +kernel
theorem dX0_item_15 : decode cX0_item 15 = .ok (.invokevirtual 39, 3) := by decide +kernel
theorem dX0_item_18 : decode cX0_item 18 = .ok (.bipush 50, 2) := by decide +kernel
theorem dX0_item_20 : decode cX0_item 20 = .ok (.bipush 57, 2) := by decide +kernel
theorem dX0_item_22 : decode cX0_item 22 = .ok (.invokestatic 53, 3) := by decide +kernel
theorem dX0_item_25 : decode cX0_item 25 = .ok (.ifCond .eq 16, 3) := by decide +kernel
theorem dX0_item_28 : decode cX0_item 28 = .ok (.aload_n 1, 1) := by decide +kernel
theorem dX0_item_29 : decode cX0_item 29 = .ok (.invokevirtual 39, 3) := by decide +kernel
theorem dX0_item_32 : decode cX0_item 32 = .ok (.bipush 48, 2) := by decide +kernel
theorem dX0_item_34 : decode cX0_item 34 = .ok (.isub, 1) := by decide +kernel
theorem dX0_item_35 : decode cX0_item 35 = .ok (.istore 5, 2) := by decide +kernel
theorem dX0_item_37 : decode cX0_item 37 = .ok (.aload_n 1, 1) := by decide +kernel
theorem dX0_item_38 : decode cX0_item 38 = .ok (.invokevirtual 57, 3) := by decide +kernel
theorem dX0_item_41 : decode cX0_item 41 = .ok (.aload_n 1, 1) := by decide +kernel
theorem dX0_item_42 : decode cX0_item 42 = .ok (.invokevirtual 39, 3) := by decide +kernel
theorem dX0_item_45 : decode cX0_item 45 = .ok (.istore 6, 2) := by decide +kernel
theorem dX0_item_47 : decode cX0_item 47 = .ok (.iload 6, 2) := by decide +kernel
theorem dX0_item_49 : decode cX0_item 49 = .ok (.bipush 40, 2) := by decide +kernel
theorem dX0_item_51 : decode cX0_item 51 = .ok (.if_icmp .ne 24, 3) := by decide +kernel
theorem dX0_item_54 : decode cX0_item 54 = .ok (.aload_n 0, 1) := by decide +kernel
theorem dX0_item_55 : decode cX0_item 55 = .ok (.aload_n 1, 1) := by decide +kernel
theorem dX0_item_56 : decode cX0_item 56 = .ok (.iload_n 2, 1) := by decide +kernel
theorem dX0_item_57 : decode cX0_item 57 = .ok (.invokevirtual 60, 3) := by decide +kernel
theorem dX0_item_60 : decode cX0_item 60 = .ok (.aload_n 0, 1) := by decide +kernel
theorem dX0_item_61 : decode cX0_item 61 = .ok (.aload_n 1, 1) := by decide +kernel
theorem dX0_item_62 : decode cX0_item 62 = .ok (.iload 4, 2) := by decide +kernel
theorem dX0_item_64 : decode cX0_item 64 = .ok (.iload 5, 2) := by decide +kernel
theorem dX0_item_66 : decode cX0_item 66 = .ok (.iconst 1, 1) := by decide +kernel
theorem dX0_item_67 : decode cX0_item 67 = .ok (.isub, 1) := by decide +kernel
theorem dX0_item_68 : decode cX0_item 68 = .ok (.iload_n 3, 1) := by decide +kernel
theorem dX0_item_69 : decode cX0_item 69 = .ok (.invokevirtual 63, 3) := by decide +kernel
theorem dX0_item_72 : decode cX0_item 72 = .ok (.goto 97, 3) := by decide +kernel
theorem dX0_item_75 : decode cX0_item 75 = .ok (.iload 6, 2) := by decide +kernel
theorem dX0_item_77 : decode cX0_item 77 = .ok (.bipush 46, 2) := by decide +kernel
theorem dX0_item_79 : decode cX0_item 79 = .ok (.if_icmp .eq 12, 3) := by decide +kernel
theorem dX0_item_82 : decode cX0_item 82 = .ok (.iload 6, 2) := by decide +kernel
theorem dX0_item_84 : decode cX0_item 84 = .ok (.invokestatic 67, 3) := by decide +kernel
theorem dX0_item_87 : decode cX0_item 87 = .ok (.iconst (-1), 1) := by decide +kernel
theorem dX0_item_88 : decode cX0_item 88 = .ok (.if_icmp .eq 76, 3) := by decide +kernel
theorem dX0_item_91 : decode cX0_item 91 = .ok (.aload_n 0, 1) := by decide +kernel
theorem dX0_item_92 : decode cX0_item 92 = .ok (.getfield 15, 3) := by decide +kernel
theorem dX0_item_95 : decode cX0_item 95 = .ok (.bipush 48, 2) := by decide +kernel
theorem dX0_item_97 : decode cX0_item 97 = .ok (.if_icmp .lt 11, 3) := by decide +kernel
theorem dX0_item_100 : decode cX0_item 100 = .ok (.aload_n 1, 1) := by decide +kernel
theorem dX0_item_101 : decode cX0_item 101 = .ok (.bipush 6, 2) := by decide +kernel
theorem dX0_item_103 : decode cX0_item 103 = .ok (.iload_n 3, 1) := by decide +kernel
theorem dX0_item_104 : decode cX0_item 104 = .ok (.invokevirtual 71, 3) := by decide +kernel
theorem dX0_item_107 : decode cX0_item 107 = .ok (.return_, 1) := by decide +kernel
theorem dX0_item_108 : decode cX0_item 108 = .ok (.aload_n 0, 1) := by decide +kernel
theorem dX0_item_109 : decode cX0_item 109 = .ok (.getfield 11, 3) := by decide +kernel
theorem dX0_item_112 : decode cX0_item 112 = .ok (.aload_n 0, 1) := by decide +kernel
theorem dX0_item_113 : decode cX0_item 113 = .ok (.getfield 15, 3) := by decide +kernel
theorem dX0_item_116 : decode cX0_item 116 = .ok (.iload 6, 2) := by decide +kernel
theorem dX0_item_118 : decode cX0_item 118 = .ok (.bipush 46, 2) := by decide +kernel
theorem dX0_item_120 : decode cX0_item 120 = .ok (.if_icmp .ne 7, 3) := by decide +kernel
theorem dX0_item_123 : decode cX0_item 123 = .ok (.iconst (-1), 1) := by decide +kernel
theorem dX0_item_124 : decode cX0_item 124 = .ok (.goto 8, 3) := by decide +kernel
theorem dX0_item_127 : decode cX0_item 127 = .ok (.iload 6, 2) := by decide +kernel
theorem dX0_item_129 : decode cX0_item 129 = .ok (.invokestatic 67, 3) := by decide +kernel
theorem dX0_item_132 : decode cX0_item 132 = .ok (.invokestatic 75, 3) := by decide +kernel
theorem dX0_item_135 : decode cX0_item 135 = .ok (.aload_n 0, 1) := by decide +kernel
theorem dX0_item_136 : decode cX0_item 136 = .ok (.dup, 1) := by decide +kernel
theorem dX0_item_137 : decode cX0_item 137 = .ok (.getfield 15, 3) := by decide +kernel
theorem dX0_item_140 : decode cX0_item 140 = .ok (.iconst 1, 1) := by decide +kernel
theorem dX0_item_141 : decode cX0_item 141 = .ok (.iadd, 1) := by decide +kernel
theorem dX0_item_142 : decode cX0_item 142 = .ok (.putfield 15, 3) := by decide +kernel
theorem dX0_item_145 : decode cX0_item 145 = .ok (.aload_n 1, 1) := by decide +kernel
theorem dX0_item_146 : decode cX0_item 146 = .ok (.invokevirtual 57, 3) := by decide +kernel
theorem dX0_item_149 : decode cX0_item 149 = .ok (.aload_n 0, 1) := by decide +kernel
theorem dX0_item_150 : decode cX0_item 150 = .ok (.aload_n 1, 1) := by decide +kernel
theorem dX0_item_151 : decode cX0_item 151 = .ok (.iload 4, 2) := by decide +kernel
theorem dX0_item_153 : decode cX0_item 153 = .ok (.iload 5, 2) := by decide +kernel
theorem dX0_item_155 : decode cX0_item 155 = .ok (.iconst 1, 1) := by decide +kernel
theorem dX0_item_156 : decode cX0_item 156 = .ok (.isub, 1) := by decide +kernel
theorem dX0_item_157 : decode cX0_item 157 = .ok (.iload_n 3, 1) := by decide +kernel
theorem dX0_item_158 : decode cX0_item 158 = .ok (.invokevirtual 63, 3) := by decide +kernel
theorem dX0_item_161 : decode cX0_item 161 = .ok (.goto 8, 3) := by decide +kernel
theorem dX0_item_164 : decode cX0_item 164 = .ok (.aload_n 1, 1) := by decide +kernel
theorem dX0_item_165 : decode cX0_item 165 = .ok (.iconst 1, 1) := by decide +kernel
theorem dX0_item_166 : decode cX0_item 166 = .ok (.invokevirtual 43, 3) := by decide +kernel
theorem dX0_item_169 : decode cX0_item 169 = .ok (.return_, 1) := by decide +kernel
theorem dX0_group_0 : decode cX0_group 0 = .ok (.iload_n 2, 1) := by decide +kernel
theorem dX0_group_1 : decode cX0_group 1 = .ok (.iconst 2, 1) := by decide +kernel
theorem dX0_group_2 : decode cX0_group 2 = .ok (.if_icmp .lt 9, 3) := by decide +kernel
theorem dX0_group_5 : decode cX0_group 5 = .ok (.aload_n 1, 1) := by decide +kernel
theorem dX0_group_6 : decode cX0_group 6 = .ok (.iconst 5, 1) := by decide +kernel
theorem dX0_group_7 : decode cX0_group 7 = .ok (.invokevirtual 43, 3) := by decide +kernel
theorem dX0_group_10 : decode cX0_group 10 = .ok (.return_, 1) := by decide +kernel
theorem dX0_group_11 : decode cX0_group 11 = .ok (.aload_n 1, 1) := by decide +kernel
theorem dX0_group_12 : decode cX0_group 12 = .ok (.invokevirtual 57, 3) := by decide +kernel
theorem dX0_group_15 : decode cX0_group 15 = .ok (.aload_n 0, 1) := by decide +kernel
theorem dX0_group_16 : decode cX0_group 16 = .ok (.aload_n 1, 1) := by decide +kernel
theorem dX0_group_17 : decode cX0_group 17 = .ok (.iload_n 2, 1) := by decide +kernel
theorem dX0_group_18 : decode cX0_group 18 = .ok (.iconst 1, 1) := by decide +kernel
theorem dX0_group_19 : decode cX0_group 19 = .ok (.iadd, 1) := by decide +kernel
theorem dX0_group_20 : decode cX0_group 20 = .ok (.invokevirtual 29, 3) := by decide +kernel
theorem dX0_group_23 : decode cX0_group 23 = .ok (.aload_n 1, 1) := by decide +kernel
theorem dX0_group_24 : decode cX0_group 24 = .ok (.bipush 41, 2) := by decide +kernel
theorem dX0_group_26 : decode cX0_group 26 = .ok (.invokevirtual 79, 3) := by decide +kernel
theorem dX0_group_29 : decode cX0_group 29 = .ok (.pop, 1) := by decide +kernel
theorem dX0_group_30 : decode cX0_group 30 = .ok (.return_, 1) := by decide +kernel
theorem dX0_repeat_0 : decode cX0_repeat 0 = .ok (.aload_n 0, 1) := by decide +kernel
theorem dX0_repeat_1 : decode cX0_repeat 1 = .ok (.getfield 15, 3) := by decide +kernel
theorem dX0_repeat_4 : decode cX0_repeat 4 = .ok (.iload_n 2, 1) := by decide +kernel
theorem dX0_repeat_5 : decode cX0_repeat 5 = .ok (.isub, 1) := by decide +kernel
theorem dX0_repeat_6 : decode cX0_repeat 6 = .ok (.istore 5, 2) := by decide +kernel
theorem dX0_repeat_8 : decode cX0_repeat 8 = .ok (.aload_n 1, 1) := by decide +kernel
theorem dX0_repeat_9 : decode cX0_repeat 9 = .ok (.invokevirtual 33, 3) := by decide +kernel
theorem dX0_repeat_12 : decode cX0_repeat 12 = .ok (.ifCond .ne 4, 3) := by decide +kernel
theorem dX0_repeat_15 : decode cX0_repeat 15 = .ok (.return_, 1) := by decide +kernel
theorem dX0_repeat_16 : decode cX0_repeat 16 = .ok (.aload_n 0, 1) := by decide +kernel
theorem dX0_repeat_17 : decode cX0_repeat 17 = .ok (.getfield 15, 3) := by decide +kernel
theorem dX0_repeat_20 : decode cX0_repeat 20 = .ok (.iload 5, 2) := by decide +kernel
theorem dX0_repeat_22 : decode cX0_repeat 22 = .ok (.iload_n 3, 1) := by decide +kernel
theorem dX0_repeat_23 : decode cX0_repeat 23 = .ok (.imul, 1) := by decide +kernel
theorem dX0_repeat_24 : decode cX0_repeat 24 = .ok (.iadd, 1) := by decide +kernel
theorem dX0_repeat_25 : decode cX0_repeat 25 = .ok (.bipush 48, 2) := by decide +kernel
theorem dX0_repeat_27 : decode cX0_repeat 27 = .ok (.if_icmp .le 12, 3) := by decide +kernel
theorem dX0_repeat_30 : decode cX0_repeat 30 = .ok (.aload_n 1, 1) := by decide +kernel
theorem dX0_repeat_31 : decode cX0_repeat 31 = .ok (.bipush 6, 2) := by decide +kernel
theorem dX0_repeat_33 : decode cX0_repeat 33 = .ok (.iload 4, 2) := by decide +kernel
theorem dX0_repeat_35 : decode cX0_repeat 35 = .ok (.invokevirtual 71, 3) := by decide +kernel
theorem dX0_repeat_38 : decode cX0_repeat 38 = .ok (.return_, 1) := by decide +kernel
theorem dX0_repeat_39 : decode cX0_repeat 39 = .ok (.iconst 0, 1) := by decide +kernel
theorem dX0_repeat_40 : decode cX0_repeat 40 = .ok (.istore 6, 2) := by decide +kernel
theorem dX0_repeat_42 : decode cX0_repeat 42 = .ok (.iload 6, 2) := by decide +kernel
theorem dX0_repeat_44 : decode cX0_repeat 44 = .ok (.iload 5, 2) := by decide +kernel
theorem dX0_repeat_46 : decode cX0_repeat 46 = .ok (.iload_n 3, 1) := by decide +kernel
theorem dX0_repeat_47 : decode cX0_repeat 47 = .ok (.imul, 1) := by decide +kernel
theorem dX0_repeat_48 : decode cX0_repeat 48 = .ok (.if_icmp .ge 44, 3) := by decide +kernel
theorem dX0_repeat_51 : decode cX0_repeat 51 = .ok (.aload_n 0, 1) := by decide +kernel
theorem dX0_repeat_52 : decode cX0_repeat 52 = .ok (.getfield 11, 3) := by decide +kernel
theorem dX0_repeat_55 : decode cX0_repeat 55 = .ok (.aload_n 0, 1) := by decide +kernel
theorem dX0_repeat_56 : decode cX0_repeat 56 = .ok (.getfield 15, 3) := by decide +kernel
theorem dX0_repeat_59 : decode cX0_repeat 59 = .ok (.aload_n 0, 1) := by decide +kernel
theorem dX0_repeat_60 : decode cX0_repeat 60 = .ok (.getfield 11, 3) := by decide +kernel
theorem dX0_repeat_63 : decode cX0_repeat 63 = .ok (.aload_n 0, 1) := by decide +kernel
theorem dX0_repeat_64 : decode cX0_repeat 64 = .ok (.getfield 15, 3) := by decide +kernel
theorem dX0_repeat_67 : decode cX0_repeat 67 = .ok (.iload 5, 2) := by decide +kernel
theorem dX0_repeat_69 : decode cX0_repeat 69 = .ok (.isub, 1) := by decide +kernel
theorem dX0_repeat_70 : decode cX0_repeat 70 = .ok (.invokestatic 25, 3) := by decide +kernel
theorem dX0_repeat_73 : decode cX0_repeat 73 = .ok (.invokestatic 75, 3) := by decide +kernel
theorem dX0_repeat_76 : decode cX0_repeat 76 = .ok (.aload_n 0, 1) := by decide +kernel
theorem dX0_repeat_77 : decode cX0_repeat 77 = .ok (.dup, 1) := by decide +kernel
theorem dX0_repeat_78 : decode cX0_repeat 78 = .ok (.getfield 15, 3) := by decide +kernel
theorem dX0_repeat_81 : decode cX0_repeat 81 = .ok (.iconst 1, 1) := by decide +kernel
theorem dX0_repeat_82 : decode cX0_repeat 82 = .ok (.iadd, 1) := by decide +kernel
theorem dX0_repeat_83 : decode cX0_repeat 83 = .ok (.putfield 15, 3) := by decide +kernel
theorem dX0_repeat_86 : decode cX0_repeat 86 = .ok (.iinc 6 1, 3) := by decide +kernel
theorem dX0_repeat_89 : decode cX0_repeat 89 = .ok (.goto (-47), 3) := by decide +kernel
theorem dX0_repeat_92 : decode cX0_repeat 92 = .ok (.return_, 1) := by decide +kernel
theorem dX1_init_0 : decode cX1_init 0 = .ok (.aload_n 0, 1) := by decide +kernel
theorem dX1_init_1 : decode cX1_init 1 = .ok (.invokespecial 3, 3) := by decide +kernel
theorem dX1_init_4 : decode cX1_init 4 = .ok (.aload_n 0, 1) := by decide +kernel
theorem dX1_init_5 : decode cX1_init 5 = .ok (.iconst 0, 1) := by decide +kernel
theorem dX1_init_6 : decode cX1_init 6 = .ok (.putfield 9, 3) := by decide +kernel
theorem dX1_init_9 : decode cX1_init 9 = .ok (.aload_n 0, 1) := by decide +kernel
theorem dX1_init_10 : decode cX1_init 10 = .ok (.bipush 16, 2) := by decide +kernel
theorem dX1_init_12 : decode cX1_init 12 = .ok (.newarray .int, 2) := by decide +kernel
theorem dX1_init_14 : decode cX1_init 14 = .ok (.putfield 15, 3) := by decide +kernel
theorem dX1_init_17 : decode cX1_init 17 = .ok (.aload_n 0, 1) := by decide +kernel
theorem dX1_init_18 : decode cX1_init 18 = .ok (.bipush 16, 2) := by decide +kernel
theorem dX1_init_20 : decode cX1_init 20 = .ok (.newarray .int, 2) := by decide +kernel
theorem dX1_init_22 : decode cX1_init 22 = .ok (.putfield 19, 3) := by decide +kernel
theorem dX1_init_25 : decode cX1_init 25 = .ok (.aload_n 0, 1) := by decide +kernel
theorem dX1_init_26 : decode cX1_init 26 = .ok (.bipush 16, 2) := by decide +kernel
theorem dX1_init_28 : decode cX1_init 28 = .ok (.newarray .int, 2) := by decide +kernel
theorem dX1_init_30 : decode cX1_init 30 = .ok (.putfield 22, 3) := by decide +kernel
theorem dX1_init_33 : decode cX1_init 33 = .ok (.return_, 1) := by decide +kernel
theorem dX1_isTold_0 : decode cX1_isTold 0 = .ok (.iload_n 1, 1) := by decide +kernel
theorem dX1_isTold_1 : decode cX1_isTold 1 = .ok (.iconst 0, 1) := by decide +kernel
theorem dX1_isTold_2 : decode cX1_isTold 2 = .ok (.bipush 15, 2) := by decide +kernel
theorem dX1_isTold_4 : decode cX1_isTold 4 = .ok (.invokestatic 25, 3) := by decide +kernel
theorem dX1_isTold_7 : decode cX1_isTold 7 = .ok (.ifCond .eq 18, 3) := by decide +kernel
theorem dX1_isTold_10 : decode cX1_isTold 10 = .ok (.aload_n 0, 1) := by decide +kernel
theorem dX1_isTold_11 : decode cX1_isTold 11 = .ok (.getfield 9, 3) := by decide +kernel
theorem dX1_isTold_14 : decode cX1_isTold 14 = .ok (.iload_n 1, 1) := by decide +kernel
theorem dX1_isTold_15 : decode cX1_isTold 15 = .ok (.invokestatic 29, 3) := by decide +kernel
theorem dX1_isTold_18 : decode cX1_isTold 18 = .ok (.ifCond .eq 7, 3) := by decide +kernel
theorem dX1_isTold_21 : decode cX1_isTold 21 = .ok (.iconst 1, 1) := by decide +kernel
theorem dX1_isTold_22 : decode cX1_isTold 22 = .ok (.goto 4, 3) := by decide +kernel
theorem dX1_isTold_25 : decode cX1_isTold 25 = .ok (.iconst 0, 1) := by decide +kernel
theorem dX1_isTold_26 : decode cX1_isTold 26 = .ok (.ireturn, 1) := by decide +kernel
theorem dX1_join_0 : decode cX1_join 0 = .ok (.aload_n 0, 1) := by decide +kernel
theorem dX1_join_1 : decode cX1_join 1 = .ok (.getfield 15, 3) := by decide +kernel
theorem dX1_join_4 : decode cX1_join 4 = .ok (.iload_n 1, 1) := by decide +kernel
theorem dX1_join_5 : decode cX1_join 5 = .ok (.aload_n 0, 1) := by decide +kernel
theorem dX1_join_6 : decode cX1_join 6 = .ok (.getfield 15, 3) := by decide +kernel
theorem dX1_join_9 : decode cX1_join 9 = .ok (.iload_n 1, 1) := by decide +kernel
theorem dX1_join_10 : decode cX1_join 10 = .ok (.invokestatic 33, 3) := by decide +kernel
theorem dX1_join_13 : decode cX1_join 13 = .ok (.iconst 1, 1) := by decide +kernel
theorem dX1_join_14 : decode cX1_join 14 = .ok (.iload_n 2, 1) := by decide +kernel
theorem dX1_join_15 : decode cX1_join 15 = .ok (.ishl, 1) := by decide +kernel
theorem dX1_join_16 : decode cX1_join 16 = .ok (.ior, 1) := by decide +kernel
theorem dX1_join_17 : decode cX1_join 17 = .ok (.invokestatic 37, 3) := by decide +kernel
theorem dX1_join_20 : decode cX1_join 20 = .ok (.aload_n 0, 1) := by decide +kernel
theorem dX1_join_21 : decode cX1_join 21 = .ok (.getfield 15, 3) := by decide +kernel
theorem dX1_join_24 : decode cX1_join 24 = .ok (.iload_n 2, 1) := by decide +kernel
theorem dX1_join_25 : decode cX1_join 25 = .ok (.aload_n 0, 1) := by decide +kernel
theorem dX1_join_26 : decode cX1_join 26 = .ok (.getfield 15, 3) := by decide +kernel
theorem dX1_join_29 : decode cX1_join 29 = .ok (.iload_n 2, 1) := by decide +kernel
theorem dX1_join_30 : decode cX1_join 30 = .ok (.invokestatic 33, 3) := by decide +kernel
theorem dX1_join_33 : decode cX1_join 33 = .ok (.iconst 1, 1) := by decide +kernel
theorem dX1_join_34 : decode cX1_join 34 = .ok (.iload_n 1, 1) := by decide +kernel
theorem dX1_join_35 : decode cX1_join 35 = .ok (.ishl, 1) := by decide +kernel
theorem dX1_join_36 : decode cX1_join 36 = .ok (.ior, 1) := by decide +kernel
theorem dX1_join_37 : decode cX1_join 37 = .ok (.invokestatic 37, 3) := by decide +kernel
theorem dX1_join_40 : decode cX1_join 40 = .ok (.return_, 1) := by decide +kernel
theorem dX1_part_0 : decode cX1_part 0 = .ok (.aload_n 0, 1) := by decide +kernel
theorem dX1_part_1 : decode cX1_part 1 = .ok (.getfield 15, 3) := by decide +kernel
theorem dX1_part_4 : decode cX1_part 4 = .ok (.iload_n 1, 1) := by decide +kernel
theorem dX1_part_5 : decode cX1_part 5 = .ok (.aload_n 0, 1) := by decide +kernel
theorem dX1_part_6 : decode cX1_part 6 = .ok (.getfield 15, 3) := by decide +kernel
theorem dX1_part_9 : decode cX1_part 9 = .ok (.iload_n 1, 1) := by decide +kernel
theorem dX1_part_10 : decode cX1_part 10 = .ok (.invokestatic 33, 3) := by decide +kernel
theorem dX1_part_13 : decode cX1_part 13 = .ok (.iconst 1, 1) := by decide +kernel
theorem dX1_part_14 : decode cX1_part 14 = .ok (.iload_n 2, 1) := by decide +kernel
theorem dX1_part_15 : decode cX1_part 15 = .ok (.ishl, 1) := by decide +kernel
theorem dX1_part_16 : decode cX1_part 16 = .ok (.iconst (-1), 1) := by decide +kernel
theorem dX1_part_17 : decode cX1_part 17 = .ok (.ixor, 1) := by decide +kernel
theorem dX1_part_18 : decode cX1_part 18 = .ok (.iand, 1) := by decide +kernel
theorem dX1_part_19 : decode cX1_part 19 = .ok (.invokestatic 37, 3) := by decide +kernel
theorem dX1_part_22 : decode cX1_part 22 = .ok (.aload_n 0, 1) := by decide +kernel
theorem dX1_part_23 : decode cX1_part 23 = .ok (.getfield 15, 3) := by decide +kernel
theorem dX1_part_26 : decode cX1_part 26 = .ok (.iload_n 2, 1) := by decide +kernel
theorem dX1_part_27 : decode cX1_part 27 = .ok (.aload_n 0, 1) := by decide +kernel
theorem dX1_part_28 : decode cX1_part 28 = .ok (.getfield 15, 3) := by decide +kernel
theorem dX1_part_31 : decode cX1_part 31 = .ok (.iload_n 2, 1) := by decide +kernel
theorem dX1_part_32 : decode cX1_part 32 = .ok (.invokestatic 33, 3) := by decide +kernel
theorem dX1_part_35 : decode cX1_part 35 = .ok (.iconst 1, 1) := by decide +kernel
theorem dX1_part_36 : decode cX1_part 36 = .ok (.iload_n 1, 1) := by decide +kernel
theorem dX1_part_37 : decode cX1_part 37 = .ok (.ishl, 1) := by decide +kernel
theorem dX1_part_38 : decode cX1_part 38 = .ok (.iconst (-1), 1) := by decide +kernel
theorem dX1_part_39 : decode cX1_part 39 = .ok (.ixor, 1) := by decide +kernel
theorem dX1_part_40 : decode cX1_part 40 = .ok (.iand, 1) := by decide +kernel
theorem dX1_part_41 : decode cX1_part 41 = .ok (.invokestatic 37, 3) := by decide +kernel
theorem dX1_part_44 : decode cX1_part 44 = .ok (.return_, 1) := by decide +kernel
theorem dX1_around_0 : decode cX1_around 0 = .ok (.aload_n 0, 1) := by decide +kernel
theorem dX1_around_1 : decode cX1_around 1 = .ok (.getfield 15, 3) := by decide +kernel
theorem dX1_around_4 : decode cX1_around 4 = .ok (.iload_n 1, 1) := by decide +kernel
theorem dX1_around_5 : decode cX1_around 5 = .ok (.invokestatic 33, 3) := by decide +kernel
theorem dX1_around_8 : decode cX1_around 8 = .ok (.iconst 1, 1) := by decide +kernel
theorem dX1_around_9 : decode cX1_around 9 = .ok (.iload_n 1, 1) := by decide +kernel
theorem dX1_around_10 : decode cX1_around 10 = .ok (.ishl, 1) := by decide +kernel
theorem dX1_around_11 : decode cX1_around 11 = .ok (.ior, 1) := by decide +kernel
theorem dX1_around_12 : decode cX1_around 12 = .ok (.ireturn, 1) := by decide +kernel
theorem dX1_aroundAny_0 : decode cX1_aroundAny 0 = .ok (.iconst 0, 1) := by decide +kernel
theorem dX1_aroundAny_1 : decode cX1_aroundAny 1 = .ok (.istore_n 2, 1) := by decide +kernel
theorem dX1_aroundAny_2 : decode cX1_aroundAny 2 = .ok (.iconst 0, 1) := by decide +kernel
theorem dX1_aroundAny_3 : decode cX1_aroundAny 3 = .ok (.istore_n 3, 1) := by decide +kernel
theorem dX1_aroundAny_4 : decode cX1_aroundAny 4 = .ok (.iload_n 3, 1) := by decide +kernel
theorem dX1_aroundAny_5 : decode cX1_aroundAny 5 = .ok (.bipush 16, 2) := by decide +kernel
theorem dX1_aroundAny_7 : decode cX1_aroundAny 7 = .ok (.if_icmp .ge 25, 3) := by decide +kernel
theorem dX1_aroundAny_10 : decode cX1_aroundAny 10 = .ok (.iload_n 1, 1) := by decide +kernel
theorem dX1_aroundAny_11 : decode cX1_aroundAny 11 = .ok (.iload_n 3, 1) := by decide +kernel
theorem dX1_aroundAny_12 : decode cX1_aroundAny 12 = .ok (.invokestatic 29, 3) := by decide +kernel
theorem dX1_aroundAny_15 : decode cX1_aroundAny 15 = .ok (.ifCond .eq 11, 3) := by decide +kernel
theorem dX1_aroundAny_18 : decode cX1_aroundAny 18 = .ok (.iload_n 2, 1) := by decide +kernel
theorem dX1_aroundAny_19 : decode cX1_aroundAny 19 = .ok (.aload_n 0, 1) := by decide +kernel
theorem dX1_aroundAny_20 : decode cX1_aroundAny 20 = .ok (.iload_n 3, 1) := by decide +kernel
theorem dX1_aroundAny_21 : decode cX1_aroundAny 21 = .ok (.invokevirtual 41, 3) := by decide +kernel
theorem dX1_aroundAny_24 : decode cX1_aroundAny 24 = .ok (.ior, 1) := by decide +kernel
theorem dX1_aroundAny_25 : decode cX1_aroundAny 25 = .ok (.istore_n 2, 1) := by decide +kernel
theorem dX1_aroundAny_26 : decode cX1_aroundAny 26 = .ok (.iinc 3 1, 3) := by decide +kernel
theorem dX1_aroundAny_29 : decode cX1_aroundAny 29 = .ok (.goto (-25), 3) := by decide +kernel
theorem dX1_aroundAny_32 : decode cX1_aroundAny 32 = .ok (.iload_n 2, 1) := by decide +kernel
theorem dX1_aroundAny_33 : decode cX1_aroundAny 33 = .ok (.ireturn, 1) := by decide +kernel
theorem dX1_measure_0 : decode cX1_measure 0 = .ok (.iconst 0, 1) := by decide +kernel
theorem dX1_measure_1 : decode cX1_measure 1 = .ok (.istore_n 2, 1) := by decide +kernel
theorem dX1_measure_2 : decode cX1_measure 2 = .ok (.iload_n 2, 1) := by decide +kernel
theorem dX1_measure_3 : decode cX1_measure 3 = .ok (.aload_n 0, 1) := by decide +kernel
theorem dX1_measure_4 : decode cX1_measure 4 = .ok (.getfield 19, 3) := by decide +kernel
theorem dX1_measure_7 : decode cX1_measure 7 = .ok (.arraylength, 1) := by decide +kernel
theorem dX1_measure_8 : decode cX1_measure 8 = .ok (.if_icmp .ge 16, 3) := by decide +kernel
theorem dX1_measure_11 : decode cX1_measure 11 = .ok (.aload_n 0, 1) := by decide +kernel
theorem dX1_measure_12 : decode cX1_measure 12 = .ok (.getfield 19, 3) := by decide +kernel
theorem dX1_measure_15 : decode cX1_measure 15 = .ok (.iload_n 2, 1) := by decide +kernel
theorem dX1_measure_16 : decode cX1_measure 16 = .ok (.iconst (-1), 1) := by decide +kernel
theorem dX1_measure_17 : decode cX1_measure 17 = .ok (.iastore, 1) := by decide +kernel
theorem dX1_measure_18 : decode cX1_measure 18 = .ok (.iinc 2 1, 3) := by decide +kernel
theorem dX1_measure_21 : decode cX1_measure 21 = .ok (.goto (-19), 3) := by decide +kernel
theorem dX1_measure_24 : decode cX1_measure 24 = .ok (.iconst 1, 1) := by decide +kernel
theorem dX1_measure_25 : decode cX1_measure 25 = .ok (.iload_n 1, 1) := by decide +kernel
theorem dX1_measure_26 : decode cX1_measure 26 = .ok (.ishl, 1) := by decide +kernel
theorem dX1_measure_27 : decode cX1_measure 27 = .ok (.istore_n 2, 1) := by decide +kernel
theorem dX1_measure_28 : decode cX1_measure 28 = .ok (.iload_n 2, 1) := by decide +kernel
theorem dX1_measure_29 : decode cX1_measure 29 = .ok (.istore_n 3, 1) := by decide +kernel
theorem dX1_measure_30 : decode cX1_measure 30 = .ok (.iconst 0, 1) := by decide +kernel
theorem dX1_measure_31 : decode cX1_measure 31 = .ok (.istore 4, 2) := by decide +kernel
theorem dX1_measure_33 : decode cX1_measure 33 = .ok (.iload 4, 2) := by decide +kernel
theorem dX1_measure_35 : decode cX1_measure 35 = .ok (.bipush 16, 2) := by decide +kernel
theorem dX1_measure_37 : decode cX1_measure 37 = .ok (.if_icmp .ge 63, 3) := by decide +kernel
theorem dX1_measure_40 : decode cX1_measure 40 = .ok (.iload_n 3, 1) := by decide +kernel
theorem dX1_measure_41 : decode cX1_measure 41 = .ok (.ifCond .eq 59, 3) := by decide +kernel
theorem dX1_measure_44 : decode cX1_measure 44 = .ok (.iconst 0, 1) := by decide +kernel
theorem dX1_measure_45 : decode cX1_measure 45 = .ok (.istore 5, 2) := by decide +kernel
theorem dX1_measure_47 : decode cX1_measure 47 = .ok (.iload 5, 2) := by decide +kernel
theorem dX1_measure_49 : decode cX1_measure 49 = .ok (.bipush 16, 2) := by decide +kernel
theorem dX1_measure_51 : decode cX1_measure 51 = .ok (.if_icmp .ge 29, 3) := by decide +kernel
theorem dX1_measure_54 : decode cX1_measure 54 = .ok (.iload_n 3, 1) := by decide +kernel
theorem dX1_measure_55 : decode cX1_measure 55 = .ok (.iload 5, 2) := by decide +kernel
theorem dX1_measure_57 : decode cX1_measure 57 = .ok (.invokestatic 29, 3) := by decide +kernel
theorem dX1_measure_60 : decode cX1_measure 60 = .ok (.ifCond .eq 14, 3) := by decide +kernel
theorem dX1_measure_63 : decode cX1_measure 63 = .ok (.aload_n 0, 1) := by decide +kernel
theorem dX1_measure_64 : decode cX1_measure 64 = .ok (.getfield 19, 3) := by decide +kernel
theorem dX1_measure_67 : decode cX1_measure 67 = .ok (.iload 5, 2) := by decide +kernel
theorem dX1_measure_69 : decode cX1_measure 69 = .ok (.iload 4, 2) := by decide +kernel
theorem dX1_measure_71 : decode cX1_measure 71 = .ok (.invokestatic 37, 3) := by decide +kernel
theorem dX1_measure_74 : decode cX1_measure 74 = .ok (.iinc 5 1, 3) := by decide +kernel
theorem dX1_measure_77 : decode cX1_measure 77 = .ok (.goto (-30), 3) := by decide +kernel
theorem dX1_measure_80 : decode cX1_measure 80 = .ok (.aload_n 0, 1) := by decide +kernel
theorem dX1_measure_81 : decode cX1_measure 81 = .ok (.iload_n 3, 1) := by decide +kernel
theorem dX1_measure_82 : decode cX1_measure 82 = .ok (.invokevirtual 45, 3) := by decide +kernel
theorem dX1_measure_85 : decode cX1_measure 85 = .ok (.iload_n 2, 1) := by decide +kernel
theorem dX1_measure_86 : decode cX1_measure 86 = .ok (.iconst (-1), 1) := by decide +kernel
theorem dX1_measure_87 : decode cX1_measure 87 = .ok (.ixor, 1) := by decide +kernel
theorem dX1_measure_88 : decode cX1_measure 88 = .ok (.iand, 1) := by decide +kernel
theorem dX1_measure_89 : decode cX1_measure 89 = .ok (.istore_n 3, 1) := by decide +kernel
theorem dX1_measure_90 : decode cX1_measure 90 = .ok (.iload_n 2, 1) := by decide +kernel
theorem dX1_measure_91 : decode cX1_measure 91 = .ok (.iload_n 3, 1) := by decide +kernel
theorem dX1_measure_92 : decode cX1_measure 92 = .ok (.ior, 1) := by decide +kernel
theorem dX1_measure_93 : decode cX1_measure 93 = .ok (.istore_n 2, 1) := by decide +kernel
theorem dX1_measure_94 : decode cX1_measure 94 = .ok (.iinc 4 1, 3) := by decide +kernel
theorem dX1_measure_97 : decode cX1_measure 97 = .ok (.goto (-64), 3) := by decide +kernel
theorem dX1_measure_100 : decode cX1_measure 100 = .ok (.return_, 1) := by decide +kernel
theorem dX1_stepsTo_0 : decode cX1_stepsTo 0 = .ok (.iload_n 1, 1) := by decide +kernel
theorem dX1_stepsTo_1 : decode cX1_stepsTo 1 = .ok (.iconst 0, 1) := by decide +kernel
theorem dX1_stepsTo_2 : decode cX1_stepsTo 2 = .ok (.bipush 15, 2) := by decide +kernel
theorem dX1_stepsTo_4 : decode cX1_stepsTo 4 = .ok (.invokestatic 25, 3) := by decide +kernel
theorem dX1_stepsTo_7 : decode cX1_stepsTo 7 = .ok (.ifCond .eq 14, 3) := by decide +kernel
theorem dX1_stepsTo_10 : decode cX1_stepsTo 10 = .ok (.aload_n 0, 1) := by decide +kernel
theorem dX1_stepsTo_11 : decode cX1_stepsTo 11 = .ok (.getfield 19, 3) := by decide +kernel
theorem dX1_stepsTo_14 : decode cX1_stepsTo 14 = .ok (.iload_n 1, 1) := by decide +kernel
theorem dX1_stepsTo_15 : decode cX1_stepsTo 15 = .ok (.invokestatic 33, 3) := by decide +kernel
theorem dX1_stepsTo_18 : decode cX1_stepsTo 18 = .ok (.goto 4, 3) := by decide +kernel
theorem dX1_stepsTo_21 : decode cX1_stepsTo 21 = .ok (.iconst (-1), 1) := by decide +kernel
theorem dX1_stepsTo_22 : decode cX1_stepsTo 22 = .ok (.ireturn, 1) := by decide +kernel
theorem dX1_stepTowards_0 : decode cX1_stepTowards 0 = .ok (.iload_n 1, 1) := by decide +kernel
theorem dX1_stepTowards_1 : decode cX1_stepTowards 1 = .ok (.istore_n 3, 1) := by decide +kernel
theorem dX1_stepTowards_2 : decode cX1_stepTowards 2 = .ok (.iconst 0, 1) := by decide +kernel
theorem dX1_stepTowards_3 : decode cX1_stepTowards 3 = .ok (.istore 4, 2) := by decide +kernel
theorem dX1_stepTowards_5 : decode cX1_stepTowards 5 = .ok (.iload 4, 2) := by decide +kernel
theorem dX1_stepTowards_7 : decode cX1_stepTowards 7 = .ok (.iload_n 2, 1) := by decide +kernel
theorem dX1_stepTowards_8 : decode cX1_stepTowards 8 = .ok (.if_icmp .ge 22, 3) := by decide +kernel
theorem dX1_stepTowards_11 : decode cX1_stepTowards 11 = .ok (.iload 4, 2) := by decide +kernel
theorem dX1_stepTowards_13 : decode cX1_stepTowards 13 = .ok (.bipush 16, 2) := by decide +kernel
theorem dX1_stepTowards_15 : decode cX1_stepTowards 15 = .ok (.if_icmp .ge 15, 3) := by decide +kernel
theorem dX1_stepTowards_18 : decode cX1_stepTowards 18 = .ok (.aload_n 0, 1) := by decide +kernel
theorem dX1_stepTowards_19 : decode cX1_stepTowards 19 = .ok (.iload_n 3, 1) := by decide +kernel
theorem dX1_stepTowards_20 : decode cX1_stepTowards 20 = .ok (.invokevirtual 48, 3) := by decide +kernel
theorem dX1_stepTowards_23 : decode cX1_stepTowards 23 = .ok (.istore_n 3, 1) := by decide +kernel
theorem dX1_stepTowards_24 : decode cX1_stepTowards 24 = .ok (.iinc 4 1, 3) := by decide +kernel
theorem dX1_stepTowards_27 : decode cX1_stepTowards 27 = .ok (.goto (-22), 3) := by decide +kernel
theorem dX1_stepTowards_30 : decode cX1_stepTowards 30 = .ok (.iload_n 3, 1) := by decide +kernel
theorem dX1_stepTowards_31 : decode cX1_stepTowards 31 = .ok (.ireturn, 1) := by decide +kernel
theorem dX1_lowestCloser_0 : decode cX1_lowestCloser 0 = .ok (.iconst 0, 1) := by decide +kernel
theorem dX1_lowestCloser_1 : decode cX1_lowestCloser 1 = .ok (.istore_n 2, 1) := by decide +kernel
theorem dX1_lowestCloser_2 : decode cX1_lowestCloser 2 = .ok (.iload_n 2, 1) := by decide +kernel
theorem dX1_lowestCloser_3 : decode cX1_lowestCloser 3 = .ok (.bipush 16, 2) := by decide +kernel
theorem dX1_lowestCloser_5 : decode cX1_lowestCloser 5 = .ok (.if_icmp .ge 41, 3) := by decide +kernel
theorem dX1_lowestCloser_8 : decode cX1_lowestCloser 8 = .ok (.aload_n 0, 1) := by decide +kernel
theorem dX1_lowestCloser_9 : decode cX1_lowestCloser 9 = .ok (.getfield 15, 3) := by decide +kernel
theorem dX1_lowestCloser_12 : decode cX1_lowestCloser 12 = .ok (.iload_n 1, 1) := by decide +kernel
theorem dX1_lowestCloser_13 : decode cX1_lowestCloser 13 = .ok (.invokestatic 33, 3) := by decide +kernel
theorem dX1_lowestCloser_16 : decode cX1_lowestCloser 16 = .ok (.iload_n 2, 1) := by decide +kernel
theorem dX1_lowestCloser_17 : decode cX1_lowestCloser 17 = .ok (.invokestatic 29, 3) := by decide +kernel
theorem dX1_lowestCloser_20 : decode cX1_lowestCloser 20 = .ok (.ifCond .eq 20, 3) := by decide +kernel
theorem dX1_lowestCloser_23 : decode cX1_lowestCloser 23 = .ok (.aload_n 0, 1) := by decide +kernel
theorem dX1_lowestCloser_24 : decode cX1_lowestCloser 24 = .ok (.iload_n 2, 1) := by decide +kernel
theorem dX1_lowestCloser_25 : decode cX1_lowestCloser 25 = .ok (.invokevirtual 51, 3) := by decide +kernel
theorem dX1_lowestCloser_28 : decode cX1_lowestCloser 28 = .ok (.aload_n 0, 1) := by decide +kernel
theorem dX1_lowestCloser_29 : decode cX1_lowestCloser 29 = .ok (.iload_n 1, 1) := by decide +kernel
theorem dX1_lowestCloser_30 : decode cX1_lowestCloser 30 = .ok (.invokevirtual 51, 3) := by decide +kernel
theorem dX1_lowestCloser_33 : decode cX1_lowestCloser 33 = .ok (.iconst 1, 1) := by decide +kernel
theorem dX1_lowestCloser_34 : decode cX1_lowestCloser 34 = .ok (.isub, 1) := by decide +kernel
theorem dX1_lowestCloser_35 : decode cX1_lowestCloser 35 = .ok (.if_icmp .ne 5, 3) := by decide +kernel
theorem dX1_lowestCloser_38 : decode cX1_lowestCloser 38 = .ok (.iload_n 2, 1) := by decide +kernel
theorem dX1_lowestCloser_39 : decode cX1_lowestCloser 39 = .ok (.ireturn, 1) := by decide +kernel
theorem dX1_lowestCloser_40 : decode cX1_lowestCloser 40 = .ok (.iinc 2 1, 3) := by decide +kernel
theorem dX1_lowestCloser_43 : decode cX1_lowestCloser 43 = .ok (.goto (-41), 3) := by decide +kernel
theorem dX1_lowestCloser_46 : decode cX1_lowestCloser 46 = .ok (.iload_n 1, 1) := by decide +kernel
theorem dX1_lowestCloser_47 : decode cX1_lowestCloser 47 = .ok (.ireturn, 1) := by decide +kernel
theorem dX1_shortestWays_0 : decode cX1_shortestWays 0 = .ok (.aload_n 0, 1) := by decide +kernel
theorem dX1_shortestWays_1 : decode cX1_shortestWays 1 = .ok (.iload_n 1, 1) := by decide +kernel
theorem dX1_shortestWays_2 : decode cX1_shortestWays 2 = .ok (.invokevirtual 54, 3) := by decide +kernel
theorem dX1_shortestWays_5 : decode cX1_shortestWays 5 = .ok (.iconst 0, 1) := by decide +kernel
theorem dX1_shortestWays_6 : decode cX1_shortestWays 6 = .ok (.istore_n 3, 1) := by decide +kernel
theorem dX1_shortestWays_7 : decode cX1_shortestWays 7 = .ok (.iload_n 3, 1) := by decide +kernel
theorem dX1_shortestWays_8 : decode cX1_shortestWays 8 = .ok (.aload_n 0, 1) := by decide +kernel
theorem dX1_shortestWays_9 : decode cX1_shortestWays 9 = .ok (.getfield 22, 3) := by decide +kernel
theorem dX1_shortestWays_12 : decode cX1_shortestWays 12 = .ok (.arraylength, 1) := by decide +kernel
theorem dX1_shortestWays_13 : decode cX1_shortestWays 13 = .ok (.if_icmp .ge 25, 3) := by decide +kernel
theorem dX1_shortestWays_16 : decode cX1_shortestWays 16 = .ok (.aload_n 0, 1) := by decide +kernel
theorem dX1_shortestWays_17 : decode cX1_shortestWays 17 = .ok (.getfield 22, 3) := by decide +kernel
theorem dX1_shortestWays_20 : decode cX1_shortestWays 20 = .ok (.iload_n 3, 1) := by decide +kernel
theorem dX1_shortestWays_21 : decode cX1_shortestWays 21 = .ok (.iload_n 3, 1) := by decide +kernel
theorem dX1_shortestWays_22 : decode cX1_shortestWays 22 = .ok (.iload_n 1, 1) := by decide +kernel
theorem dX1_shortestWays_23 : decode cX1_shortestWays 23 = .ok (.if_icmp .ne 7, 3) := by decide +kernel
theorem dX1_shortestWays_26 : decode cX1_shortestWays 26 = .ok (.iconst 1, 1) := by decide +kernel
theorem dX1_shortestWays_27 : decode cX1_shortestWays 27 = .ok (.goto 4, 3) := by decide +kernel
theorem dX1_shortestWays_30 : decode cX1_shortestWays 30 = .ok (.iconst 0, 1) := by decide +kernel
theorem dX1_shortestWays_31 : decode cX1_shortestWays 31 = .ok (.iastore, 1) := by decide +kernel
theorem dX1_shortestWays_32 : decode cX1_shortestWays 32 = .ok (.iinc 3 1, 3) := by decide +kernel
theorem dX1_shortestWays_35 : decode cX1_shortestWays 35 = .ok (.goto (-28), 3) := by decide +kernel
theorem dX1_shortestWays_38 : decode cX1_shortestWays 38 = .ok (.iconst 1, 1) := by decide +kernel
theorem dX1_shortestWays_39 : decode cX1_shortestWays 39 = .ok (.istore_n 3, 1) := by decide +kernel
theorem dX1_shortestWays_40 : decode cX1_shortestWays 40 = .ok (.iload_n 3, 1) := by decide +kernel
theorem dX1_shortestWays_41 : decode cX1_shortestWays 41 = .ok (.bipush 16, 2) := by decide +kernel
theorem dX1_shortestWays_43 : decode cX1_shortestWays 43 = .ok (.if_icmp .ge 51, 3) := by decide +kernel
theorem dX1_shortestWays_46 : decode cX1_shortestWays 46 = .ok (.iconst 0, 1) := by decide +kernel
theorem dX1_shortestWays_47 : decode cX1_shortestWays 47 = .ok (.istore 4, 2) := by decide +kernel
theorem dX1_shortestWays_49 : decode cX1_shortestWays 49 = .ok (.iload 4, 2) := by decide +kernel
theorem dX1_shortestWays_51 : decode cX1_shortestWays 51 = .ok (.bipush 16, 2) := by decide +kernel
theorem dX1_shortestWays_53 : decode cX1_shortestWays 53 = .ok (.if_icmp .ge 35, 3) := by decide +kernel
theorem dX1_shortestWays_56 : decode cX1_shortestWays 56 = .ok (.aload_n 0, 1) := by decide +kernel
theorem dX1_shortestWays_57 : decode cX1_shortestWays 57 = .ok (.iload 4, 2) := by decide +kernel
theorem dX1_shortestWays_59 : decode cX1_shortestWays 59 = .ok (.invokevirtual 51, 3) := by decide +kernel
theorem dX1_shortestWays_62 : decode cX1_shortestWays 62 = .ok (.iload_n 3, 1) := by decide +kernel
theorem dX1_shortestWays_63 : decode cX1_shortestWays 63 = .ok (.if_icmp .ne 19, 3) := by decide +kernel
theorem dX1_shortestWays_66 : decode cX1_shortestWays 66 = .ok (.aload_n 0, 1) := by decide +kernel
theorem dX1_shortestWays_67 : decode cX1_shortestWays 67 = .ok (.getfield 22, 3) := by decide +kernel
theorem dX1_shortestWays_70 : decode cX1_shortestWays 70 = .ok (.iload 4, 2) := by decide +kernel
theorem dX1_shortestWays_72 : decode cX1_shortestWays 72 = .ok (.aload_n 0, 1) := by decide +kernel
theorem dX1_shortestWays_73 : decode cX1_shortestWays 73 = .ok (.iload 4, 2) := by decide +kernel
theorem dX1_shortestWays_75 : decode cX1_shortestWays 75 = .ok (.iload_n 3, 1) := by decide +kernel
theorem dX1_shortestWays_76 : decode cX1_shortestWays 76 = .ok (.invokevirtual 58, 3) := by decide +kernel
theorem dX1_shortestWays_79 : decode cX1_shortestWays 79 = .ok (.invokestatic 37, 3) := by decide +kernel
theorem dX1_shortestWays_82 : decode cX1_shortestWays 82 = .ok (.iinc 4 1, 3) := by decide +kernel
theorem dX1_shortestWays_85 : decode cX1_shortestWays 85 = .ok (.goto (-36), 3) := by decide +kernel
theorem dX1_shortestWays_88 : decode cX1_shortestWays 88 = .ok (.iinc 3 1, 3) := by decide +kernel
theorem dX1_shortestWays_91 : decode cX1_shortestWays 91 = .ok (.goto (-51), 3) := by decide +kernel
theorem dX1_shortestWays_94 : decode cX1_shortestWays 94 = .ok (.aload_n 0, 1) := by decide +kernel
theorem dX1_shortestWays_95 : decode cX1_shortestWays 95 = .ok (.getfield 22, 3) := by decide +kernel
theorem dX1_shortestWays_98 : decode cX1_shortestWays 98 = .ok (.iload_n 2, 1) := by decide +kernel
theorem dX1_shortestWays_99 : decode cX1_shortestWays 99 = .ok (.invokestatic 33, 3) := by decide +kernel
theorem dX1_shortestWays_102 : decode cX1_shortestWays 102 = .ok (.ireturn, 1) := by decide +kernel
theorem dX1_waysFromCloser_0 : decode cX1_waysFromCloser 0 = .ok (.iconst 0, 1) := by decide +kernel
theorem dX1_waysFromCloser_1 : decode cX1_waysFromCloser 1 = .ok (.istore_n 3, 1) := by decide +kernel
theorem dX1_waysFromCloser_2 : decode cX1_waysFromCloser 2 = .ok (.iconst 0, 1) := by decide +kernel
theorem dX1_waysFromCloser_3 : decode cX1_waysFromCloser 3 = .ok (.istore 4, 2) := by decide +kernel
theorem dX1_waysFromCloser_5 : decode cX1_waysFromCloser 5 = .ok (.iload 4, 2) := by decide +kernel
theorem dX1_waysFromCloser_7 : decode cX1_waysFromCloser 7 = .ok (.bipush 16, 2) := by decide +kernel
theorem dX1_waysFromCloser_9 : decode cX1_waysFromCloser 9 = .ok (.if_icmp .ge 49, 3) := by decide +kernel
theorem dX1_waysFromCloser_12 : decode cX1_waysFromCloser 12 = .ok (.aload_n 0, 1) := by decide +kernel
theorem dX1_waysFromCloser_13 : decode cX1_waysFromCloser 13 = .ok (.getfield 15, 3) := by decide +kernel
theorem dX1_waysFromCloser_16 : decode cX1_waysFromCloser 16 = .ok (.iload_n 1, 1) := by decide +kernel
theorem dX1_waysFromCloser_17 : decode cX1_waysFromCloser 17 = .ok (.invokestatic 33, 3) := by decide +kernel
theorem dX1_waysFromCloser_20 : decode cX1_waysFromCloser 20 = .ok (.iload 4, 2) := by decide +kernel
theorem dX1_waysFromCloser_22 : decode cX1_waysFromCloser 22 = .ok (.invokestatic 29, 3) := by decide +kernel
theorem dX1_waysFromCloser_25 : decode cX1_waysFromCloser 25 = .ok (.ifCond .eq 27, 3) := by decide +kernel
theorem dX1_waysFromCloser_28 : decode cX1_waysFromCloser 28 = .ok (.aload_n 0, 1) := by decide +kernel
theorem dX1_waysFromCloser_29 : decode cX1_waysFromCloser 29 = .ok (.iload 4, 2) := by decide +kernel
theorem dX1_waysFromCloser_31 : decode cX1_waysFromCloser 31 = .ok (.invokevirtual 51, 3) := by decide +kernel
theorem dX1_waysFromCloser_34 : decode cX1_waysFromCloser 34 = .ok (.iload_n 2, 1) := by decide +kernel
theorem dX1_waysFromCloser_35 : decode cX1_waysFromCloser 35 = .ok (.iconst 1, 1) := by decide +kernel
theorem dX1_waysFromCloser_36 : decode cX1_waysFromCloser 36 = .ok (.isub, 1) := by decide +kernel
theorem dX1_waysFromCloser_37 : decode cX1_waysFromCloser 37 = .ok (.if_icmp .ne 15, 3) := by decide +kernel
theorem dX1_waysFromCloser_40 : decode cX1_waysFromCloser 40 = .ok (.iload_n 3, 1) := by decide +kernel
theorem dX1_waysFromCloser_41 : decode cX1_waysFromCloser 41 = .ok (.aload_n 0, 1) := by decide +kernel
theorem dX1_waysFromCloser_42 : decode cX1_waysFromCloser 42 = .ok (.getfield 22, 3) := by decide +kernel
theorem dX1_waysFromCloser_45 : decode cX1_waysFromCloser 45 = .ok (.iload 4, 2) := by decide +kernel
theorem dX1_waysFromCloser_47 : decode cX1_waysFromCloser 47 = .ok (.invokestatic 33, 3) := by decide +kernel
theorem dX1_waysFromCloser_50 : decode cX1_waysFromCloser 50 = .ok (.iadd, 1) := by decide +kernel
theorem dX1_waysFromCloser_51 : decode cX1_waysFromCloser 51 = .ok (.istore_n 3, 1) := by decide +kernel
theorem dX1_waysFromCloser_52 : decode cX1_waysFromCloser 52 = .ok (.iinc 4 1, 3) := by decide +kernel
theorem dX1_waysFromCloser_55 : decode cX1_waysFromCloser 55 = .ok (.goto (-50), 3) := by decide +kernel
theorem dX1_waysFromCloser_58 : decode cX1_waysFromCloser 58 = .ok (.iload_n 3, 1) := by decide +kernel
theorem dX1_waysFromCloser_59 : decode cX1_waysFromCloser 59 = .ok (.ireturn, 1) := by decide +kernel
theorem dX1_lanesInAll_0 : decode cX1_lanesInAll 0 = .ok (.iconst 0, 1) := by decide +kernel
theorem dX1_lanesInAll_1 : decode cX1_lanesInAll 1 = .ok (.istore_n 1, 1) := by decide +kernel
theorem dX1_lanesInAll_2 : decode cX1_lanesInAll 2 = .ok (.iconst 0, 1) := by decide +kernel
theorem dX1_lanesInAll_3 : decode cX1_lanesInAll 3 = .ok (.istore_n 2, 1) := by decide +kernel
theorem dX1_lanesInAll_4 : decode cX1_lanesInAll 4 = .ok (.iload_n 2, 1) := by decide +kernel
theorem dX1_lanesInAll_5 : decode cX1_lanesInAll 5 = .ok (.bipush 16, 2) := by decide +kernel
theorem dX1_lanesInAll_7 : decode cX1_lanesInAll 7 = .ok (.if_icmp .ge 23, 3) := by decide +kernel
theorem dX1_lanesInAll_10 : decode cX1_lanesInAll 10 = .ok (.iload_n 1, 1) := by decide +kernel
theorem dX1_lanesInAll_11 : decode cX1_lanesInAll 11 = .ok (.aload_n 0, 1) := by decide +kernel
theorem dX1_lanesInAll_12 : decode cX1_lanesInAll 12 = .ok (.getfield 15, 3) := by decide +kernel
theorem dX1_lanesInAll_15 : decode cX1_lanesInAll 15 = .ok (.iload_n 2, 1) := by decide +kernel
theorem dX1_lanesInAll_16 : decode cX1_lanesInAll 16 = .ok (.invokestatic 33, 3) := by decide +kernel
theorem dX1_lanesInAll_19 : decode cX1_lanesInAll 19 = .ok (.invokestatic 62, 3) := by decide +kernel
theorem dX1_lanesInAll_22 : decode cX1_lanesInAll 22 = .ok (.iadd, 1) := by decide +kernel
theorem dX1_lanesInAll_23 : decode cX1_lanesInAll 23 = .ok (.istore_n 1, 1) := by decide +kernel
theorem dX1_lanesInAll_24 : decode cX1_lanesInAll 24 = .ok (.iinc 2 1, 3) := by decide +kernel
theorem dX1_lanesInAll_27 : decode cX1_lanesInAll 27 = .ok (.goto (-23), 3) := by decide +kernel
theorem dX1_lanesInAll_30 : decode cX1_lanesInAll 30 = .ok (.iload_n 1, 1) := by decide +kernel
theorem dX1_lanesInAll_31 : decode cX1_lanesInAll 31 = .ok (.iconst 2, 1) := by decide +kernel
theorem dX1_lanesInAll_32 : decode cX1_lanesInAll 32 = .ok (.idiv, 1) := by decide +kernel
theorem dX1_lanesInAll_33 : decode cX1_lanesInAll 33 = .ok (.ireturn, 1) := by decide +kernel
theorem dX1_bridgesInAll_0 : decode cX1_bridgesInAll 0 = .ok (.iconst 0, 1) := by decide +kernel
theorem dX1_bridgesInAll_1 : decode cX1_bridgesInAll 1 = .ok (.istore_n 1, 1) := by decide +kernel
theorem dX1_bridgesInAll_2 : decode cX1_bridgesInAll 2 = .ok (.iconst 0, 1) := by decide +kernel
theorem dX1_bridgesInAll_3 : decode cX1_bridgesInAll 3 = .ok (.istore_n 2, 1) := by decide +kernel
theorem dX1_bridgesInAll_4 : decode cX1_bridgesInAll 4 = .ok (.iload_n 2, 1) := by decide +kernel
theorem dX1_bridgesInAll_5 : decode cX1_bridgesInAll 5 = .ok (.bipush 16, 2) := by decide +kernel
theorem dX1_bridgesInAll_7 : decode cX1_bridgesInAll 7 = .ok (.if_icmp .ge 37, 3) := by decide +kernel
theorem dX1_bridgesInAll_10 : decode cX1_bridgesInAll 10 = .ok (.iload_n 2, 1) := by decide +kernel
theorem dX1_bridgesInAll_11 : decode cX1_bridgesInAll 11 = .ok (.iconst 1, 1) := by decide +kernel
theorem dX1_bridgesInAll_12 : decode cX1_bridgesInAll 12 = .ok (.iadd, 1) := by decide +kernel
theorem dX1_bridgesInAll_13 : decode cX1_bridgesInAll 13 = .ok (.istore_n 3, 1) := by decide +kernel
theorem dX1_bridgesInAll_14 : decode cX1_bridgesInAll 14 = .ok (.iload_n 3, 1) := by decide +kernel
theorem dX1_bridgesInAll_15 : decode cX1_bridgesInAll 15 = .ok (.bipush 16, 2) := by decide +kernel
theorem dX1_bridgesInAll_17 : decode cX1_bridgesInAll 17 = .ok (.if_icmp .ge 21, 3) := by decide +kernel
theorem dX1_bridgesInAll_20 : decode cX1_bridgesInAll 20 = .ok (.aload_n 0, 1) := by decide +kernel
theorem dX1_bridgesInAll_21 : decode cX1_bridgesInAll 21 = .ok (.iload_n 2, 1) := by decide +kernel
theorem dX1_bridgesInAll_22 : decode cX1_bridgesInAll 22 = .ok (.iload_n 3, 1) := by decide +kernel
theorem dX1_bridgesInAll_23 : decode cX1_bridgesInAll 23 = .ok (.invokevirtual 67, 3) := by decide +kernel
theorem dX1_bridgesInAll_26 : decode cX1_bridgesInAll 26 = .ok (.ifCond .eq 6, 3) := by decide +kernel
theorem dX1_bridgesInAll_29 : decode cX1_bridgesInAll 29 = .ok (.iinc 1 1, 3) := by decide +kernel
theorem dX1_bridgesInAll_32 : decode cX1_bridgesInAll 32 = .ok (.iinc 3 1, 3) := by decide +kernel
theorem dX1_bridgesInAll_35 : decode cX1_bridgesInAll 35 = .ok (.goto (-21), 3) := by decide +kernel
theorem dX1_bridgesInAll_38 : decode cX1_bridgesInAll 38 = .ok (.iinc 2 1, 3) := by decide +kernel
theorem dX1_bridgesInAll_41 : decode cX1_bridgesInAll 41 = .ok (.goto (-37), 3) := by decide +kernel
theorem dX1_bridgesInAll_44 : decode cX1_bridgesInAll 44 = .ok (.iload_n 1, 1) := by decide +kernel
theorem dX1_bridgesInAll_45 : decode cX1_bridgesInAll 45 = .ok (.ireturn, 1) := by decide +kernel
theorem dX1_firstBridge_0 : decode cX1_firstBridge 0 = .ok (.iconst 0, 1) := by decide +kernel
theorem dX1_firstBridge_1 : decode cX1_firstBridge 1 = .ok (.istore_n 1, 1) := by decide +kernel
theorem dX1_firstBridge_2 : decode cX1_firstBridge 2 = .ok (.iload_n 1, 1) := by decide +kernel
theorem dX1_firstBridge_3 : decode cX1_firstBridge 3 = .ok (.bipush 16, 2) := by decide +kernel
theorem dX1_firstBridge_5 : decode cX1_firstBridge 5 = .ok (.if_icmp .ge 41, 3) := by decide +kernel
theorem dX1_firstBridge_8 : decode cX1_firstBridge 8 = .ok (.iload_n 1, 1) := by decide +kernel
theorem dX1_firstBridge_9 : decode cX1_firstBridge 9 = .ok (.iconst 1, 1) := by decide +kernel
theorem dX1_firstBridge_10 : decode cX1_firstBridge 10 = .ok (.iadd, 1) := by decide +kernel
theorem dX1_firstBridge_11 : decode cX1_firstBridge 11 = .ok (.istore_n 2, 1) := by decide +kernel
theorem dX1_firstBridge_12 : decode cX1_firstBridge 12 = .ok (.iload_n 2, 1) := by decide +kernel
theorem dX1_firstBridge_13 : decode cX1_firstBridge 13 = .ok (.bipush 16, 2) := by decide +kernel
theorem dX1_firstBridge_15 : decode cX1_firstBridge 15 = .ok (.if_icmp .ge 25, 3) := by decide +kernel
theorem dX1_firstBridge_18 : decode cX1_firstBridge 18 = .ok (.aload_n 0, 1) := by decide +kernel
theorem dX1_firstBridge_19 : decode cX1_firstBridge 19 = .ok (.iload_n 1, 1) := by decide +kernel
theorem dX1_firstBridge_20 : decode cX1_firstBridge 20 = .ok (.iload_n 2, 1) := by decide +kernel
theorem dX1_firstBridge_21 : decode cX1_firstBridge 21 = .ok (.invokevirtual 67, 3) := by decide +kernel
theorem dX1_firstBridge_24 : decode cX1_firstBridge 24 = .ok (.ifCond .eq 10, 3) := by decide +kernel
theorem dX1_firstBridge_27 : decode cX1_firstBridge 27 = .ok (.iload_n 1, 1) := by decide +kernel
theorem dX1_firstBridge_28 : decode cX1_firstBridge 28 = .ok (.bipush 16, 2) := by decide +kernel
theorem dX1_firstBridge_30 : decode cX1_firstBridge 30 = .ok (.imul, 1) := by decide +kernel
theorem dX1_firstBridge_31 : decode cX1_firstBridge 31 = .ok (.iload_n 2, 1) := by decide +kernel
theorem dX1_firstBridge_32 : decode cX1_firstBridge 32 = .ok (.iadd, 1) := by decide +kernel
theorem dX1_firstBridge_33 : decode cX1_firstBridge 33 = .ok (.ireturn, 1) := by decide +kernel
theorem dX1_firstBridge_34 : decode cX1_firstBridge 34 = .ok (.iinc 2 1, 3) := by decide +kernel
theorem dX1_firstBridge_37 : decode cX1_firstBridge 37 = .ok (.goto (-25), 3) := by decide +kernel
theorem dX1_firstBridge_40 : decode cX1_firstBridge 40 = .ok (.iinc 1 1, 3) := by decide +kernel
theorem dX1_firstBridge_43 : decode cX1_firstBridge 43 = .ok (.goto (-41), 3) := by decide +kernel
theorem dX1_firstBridge_46 : decode cX1_firstBridge 46 = .ok (.iconst (-1), 1) := by decide +kernel
theorem dX1_firstBridge_47 : decode cX1_firstBridge 47 = .ok (.ireturn, 1) := by decide +kernel
theorem dX1_isBridge_0 : decode cX1_isBridge 0 = .ok (.aload_n 0, 1) := by decide +kernel
theorem dX1_isBridge_1 : decode cX1_isBridge 1 = .ok (.getfield 15, 3) := by decide +kernel
theorem dX1_isBridge_4 : decode cX1_isBridge 4 = .ok (.iload_n 1, 1) := by decide +kernel
theorem dX1_isBridge_5 : decode cX1_isBridge 5 = .ok (.invokestatic 33, 3) := by decide +kernel
theorem dX1_isBridge_8 : decode cX1_isBridge 8 = .ok (.iload_n 2, 1) := by decide +kernel
theorem dX1_isBridge_9 : decode cX1_isBridge 9 = .ok (.invokestatic 29, 3) := by decide +kernel
theorem dX1_isBridge_12 : decode cX1_isBridge 12 = .ok (.ifCond .ne 5, 3) := by decide +kernel
theorem dX1_isBridge_15 : decode cX1_isBridge 15 = .ok (.iconst 0, 1) := by decide +kernel
theorem dX1_isBridge_16 : decode cX1_isBridge 16 = .ok (.ireturn, 1) := by decide +kernel
theorem dX1_isBridge_17 : decode cX1_isBridge 17 = .ok (.aload_n 0, 1) := by decide +kernel
theorem dX1_isBridge_18 : decode cX1_isBridge 18 = .ok (.iload_n 1, 1) := by decide +kernel
theorem dX1_isBridge_19 : decode cX1_isBridge 19 = .ok (.iload_n 2, 1) := by decide +kernel
theorem dX1_isBridge_20 : decode cX1_isBridge 20 = .ok (.invokevirtual 70, 3) := by decide +kernel
theorem dX1_isBridge_23 : decode cX1_isBridge 23 = .ok (.aload_n 0, 1) := by decide +kernel
theorem dX1_isBridge_24 : decode cX1_isBridge 24 = .ok (.iload_n 1, 1) := by decide +kernel
theorem dX1_isBridge_25 : decode cX1_isBridge 25 = .ok (.invokevirtual 54, 3) := by decide +kernel
theorem dX1_isBridge_28 : decode cX1_isBridge 28 = .ok (.aload_n 0, 1) := by decide +kernel
theorem dX1_isBridge_29 : decode cX1_isBridge 29 = .ok (.iload_n 1, 1) := by decide +kernel
theorem dX1_isBridge_30 : decode cX1_isBridge 30 = .ok (.iload_n 2, 1) := by decide +kernel
theorem dX1_isBridge_31 : decode cX1_isBridge 31 = .ok (.invokevirtual 74, 3) := by decide +kernel
theorem dX1_isBridge_34 : decode cX1_isBridge 34 = .ok (.aload_n 0, 1) := by decide +kernel
theorem dX1_isBridge_35 : decode cX1_isBridge 35 = .ok (.iload_n 2, 1) := by decide +kernel
theorem dX1_isBridge_36 : decode cX1_isBridge 36 = .ok (.invokevirtual 51, 3) := by decide +kernel
theorem dX1_isBridge_39 : decode cX1_isBridge 39 = .ok (.iconst (-1), 1) := by decide +kernel
theorem dX1_isBridge_40 : decode cX1_isBridge 40 = .ok (.if_icmp .ne 7, 3) := by decide +kernel
theorem dX1_isBridge_43 : decode cX1_isBridge 43 = .ok (.iconst 1, 1) := by decide +kernel
theorem dX1_isBridge_44 : decode cX1_isBridge 44 = .ok (.goto 4, 3) := by decide +kernel
theorem dX1_isBridge_47 : decode cX1_isBridge 47 = .ok (.iconst 0, 1) := by decide +kernel
theorem dX1_isBridge_48 : decode cX1_isBridge 48 = .ok (.ireturn, 1) := by decide +kernel
theorem dX1_fewestPosts_0 : decode cX1_fewestPosts 0 = .ok (.iconst (-1), 1) := by decide +kernel
theorem dX1_fewestPosts_1 : decode cX1_fewestPosts 1 = .ok (.istore_n 1, 1) := by decide +kernel
theorem dX1_fewestPosts_2 : decode cX1_fewestPosts 2 = .ok (.iconst 0, 1) := by decide +kernel
theorem dX1_fewestPosts_3 : decode cX1_fewestPosts 3 = .ok (.istore_n 2, 1) := by decide +kernel
theorem dX1_fewestPosts_4 : decode cX1_fewestPosts 4 = .ok (.iload_n 2, 1) := by decide +kernel
theorem dX1_fewestPosts_5 : decode cX1_fewestPosts 5 = .ok (.bipush 16, 2) := by decide +kernel
theorem dX1_fewestPosts_7 : decode cX1_fewestPosts 7 = .ok (.if_icmp .gt 25, 3) := by decide +kernel
theorem dX1_fewestPosts_10 : decode cX1_fewestPosts 10 = .ok (.iload_n 1, 1) := by decide +kernel
theorem dX1_fewestPosts_11 : decode cX1_fewestPosts 11 = .ok (.iconst (-1), 1) := by decide +kernel
theorem dX1_fewestPosts_12 : decode cX1_fewestPosts 12 = .ok (.if_icmp .ne 20, 3) := by decide +kernel
theorem dX1_fewestPosts_15 : decode cX1_fewestPosts 15 = .ok (.aload_n 0, 1) := by decide +kernel
theorem dX1_fewestPosts_16 : decode cX1_fewestPosts 16 = .ok (.iconst 0, 1) := by decide +kernel
theorem dX1_fewestPosts_17 : decode cX1_fewestPosts 17 = .ok (.aload_n 0, 1) := by decide +kernel
theorem dX1_fewestPosts_18 : decode cX1_fewestPosts 18 = .ok (.getfield 9, 3) := by decide +kernel
theorem dX1_fewestPosts_21 : decode cX1_fewestPosts 21 = .ok (.iload_n 2, 1) := by decide +kernel
theorem dX1_fewestPosts_22 : decode cX1_fewestPosts 22 = .ok (.invokestatic 77, 3) := by decide +kernel
theorem dX1_fewestPosts_25 : decode cX1_fewestPosts 25 = .ok (.istore_n 1, 1) := by decide +kernel
theorem dX1_fewestPosts_26 : decode cX1_fewestPosts 26 = .ok (.iinc 2 1, 3) := by decide +kernel
theorem dX1_fewestPosts_29 : decode cX1_fewestPosts 29 = .ok (.goto (-25), 3) := by decide +kernel
theorem dX1_fewestPosts_32 : decode cX1_fewestPosts 32 = .ok (.iload_n 1, 1) := by decide +kernel
theorem dX1_fewestPosts_33 : decode cX1_fewestPosts 33 = .ok (.ireturn, 1) := by decide +kernel
theorem dX1_leastPosts_0 : decode cX1_leastPosts 0 = .ok (.iload_n 2, 1) := by decide +kernel
theorem dX1_leastPosts_1 : decode cX1_leastPosts 1 = .ok (.ifCond .ne 5, 3) := by decide +kernel
theorem dX1_leastPosts_4 : decode cX1_leastPosts 4 = .ok (.iload_n 1, 1) := by decide +kernel
theorem dX1_leastPosts_5 : decode cX1_leastPosts 5 = .ok (.ireturn, 1) := by decide +kernel
theorem dX1_leastPosts_6 : decode cX1_leastPosts 6 = .ok (.iload_n 3, 1) := by decide +kernel
theorem dX1_leastPosts_7 : decode cX1_leastPosts 7 = .ok (.ifCond .gt 5, 3) := by decide +kernel
theorem dX1_leastPosts_10 : decode cX1_leastPosts 10 = .ok (.iconst (-1), 1) := by decide +kernel
theorem dX1_leastPosts_11 : decode cX1_leastPosts 11 = .ok (.ireturn, 1) := by decide +kernel
theorem dX1_leastPosts_12 : decode cX1_leastPosts 12 = .ok (.aload_n 0, 1) := by decide +kernel
theorem dX1_leastPosts_13 : decode cX1_leastPosts 13 = .ok (.iload_n 2, 1) := by decide +kernel
theorem dX1_leastPosts_14 : decode cX1_leastPosts 14 = .ok (.invokestatic 81, 3) := by decide +kernel
theorem dX1_leastPosts_17 : decode cX1_leastPosts 17 = .ok (.invokevirtual 41, 3) := by decide +kernel
theorem dX1_leastPosts_20 : decode cX1_leastPosts 20 = .ok (.istore 4, 2) := by decide +kernel
theorem dX1_leastPosts_22 : decode cX1_leastPosts 22 = .ok (.iconst (-1), 1) := by decide +kernel
theorem dX1_leastPosts_23 : decode cX1_leastPosts 23 = .ok (.istore 5, 2) := by decide +kernel
theorem dX1_leastPosts_25 : decode cX1_leastPosts 25 = .ok (.iconst 0, 1) := by decide +kernel
theorem dX1_leastPosts_26 : decode cX1_leastPosts 26 = .ok (.istore 6, 2) := by decide +kernel
theorem dX1_leastPosts_28 : decode cX1_leastPosts 28 = .ok (.iload 6, 2) := by decide +kernel
theorem dX1_leastPosts_30 : decode cX1_leastPosts 30 = .ok (.bipush 16, 2) := by decide +kernel
theorem dX1_leastPosts_32 : decode cX1_leastPosts 32 = .ok (.if_icmp .ge 67, 3) := by decide +kernel
theorem dX1_leastPosts_35 : decode cX1_leastPosts 35 = .ok (.iload 4, 2) := by decide +kernel
theorem dX1_leastPosts_37 : decode cX1_leastPosts 37 = .ok (.iload 6, 2) := by decide +kernel
theorem dX1_leastPosts_39 : decode cX1_leastPosts 39 = .ok (.invokestatic 29, 3) := by decide +kernel
theorem dX1_leastPosts_42 : decode cX1_leastPosts 42 = .ok (.ifCond .eq 51, 3) := by decide +kernel
theorem dX1_leastPosts_45 : decode cX1_leastPosts 45 = .ok (.aload_n 0, 1) := by decide +kernel
theorem dX1_leastPosts_46 : decode cX1_leastPosts 46 = .ok (.iload_n 1, 1) := by decide +kernel
theorem dX1_leastPosts_47 : decode cX1_leastPosts 47 = .ok (.iconst 1, 1) := by decide +kernel
theorem dX1_leastPosts_48 : decode cX1_leastPosts 48 = .ok (.iload 6, 2) := by decide +kernel
theorem dX1_leastPosts_50 : decode cX1_leastPosts 50 = .ok (.ishl, 1) := by decide +kernel
theorem dX1_leastPosts_51 : decode cX1_leastPosts 51 = .ok (.ior, 1) := by decide +kernel
theorem dX1_leastPosts_52 : decode cX1_leastPosts 52 = .ok (.iload_n 2, 1) := by decide +kernel
theorem dX1_leastPosts_53 : decode cX1_leastPosts 53 = .ok (.aload_n 0, 1) := by decide +kernel
theorem dX1_leastPosts_54 : decode cX1_leastPosts 54 = .ok (.iload 6, 2) := by decide +kernel
theorem dX1_leastPosts_56 : decode cX1_leastPosts 56 = .ok (.invokevirtual 41, 3) := by decide +kernel
theorem dX1_leastPosts_59 : decode cX1_leastPosts 59 = .ok (.iconst (-1), 1) := by decide +kernel
theorem dX1_leastPosts_60 : decode cX1_leastPosts 60 = .ok (.ixor, 1) := by decide +kernel
theorem dX1_leastPosts_61 : decode cX1_leastPosts 61 = .ok (.iand, 1) := by decide +kernel
theorem dX1_leastPosts_62 : decode cX1_leastPosts 62 = .ok (.iload_n 3, 1) := by decide +kernel
theorem dX1_leastPosts_63 : decode cX1_leastPosts 63 = .ok (.iconst 1, 1) := by decide +kernel
theorem dX1_leastPosts_64 : decode cX1_leastPosts 64 = .ok (.isub, 1) := by decide +kernel
theorem dX1_leastPosts_65 : decode cX1_leastPosts 65 = .ok (.invokestatic 77, 3) := by decide +kernel
theorem dX1_leastPosts_68 : decode cX1_leastPosts 68 = .ok (.istore 7, 2) := by decide +kernel
theorem dX1_leastPosts_70 : decode cX1_leastPosts 70 = .ok (.iload 7, 2) := by decide +kernel
theorem dX1_leastPosts_72 : decode cX1_leastPosts 72 = .ok (.iconst (-1), 1) := by decide +kernel
theorem dX1_leastPosts_73 : decode cX1_leastPosts 73 = .ok (.if_icmp .eq 20, 3) := by decide +kernel
theorem dX1_leastPosts_76 : decode cX1_leastPosts 76 = .ok (.iload 5, 2) := by decide +kernel
theorem dX1_leastPosts_78 : decode cX1_leastPosts 78 = .ok (.iconst (-1), 1) := by decide +kernel
theorem dX1_leastPosts_79 : decode cX1_leastPosts 79 = .ok (.if_icmp .eq 10, 3) := by decide +kernel
theorem dX1_leastPosts_82 : decode cX1_leastPosts 82 = .ok (.iload 7, 2) := by decide +kernel
theorem dX1_leastPosts_84 : decode cX1_leastPosts 84 = .ok (.iload 5, 2) := by decide +kernel
theorem dX1_leastPosts_86 : decode cX1_leastPosts 86 = .ok (.if_icmp .ge 7, 3) := by decide +kernel
theorem dX1_leastPosts_89 : decode cX1_leastPosts 89 = .ok (.iload 7, 2) := by decide +kernel
theorem dX1_leastPosts_91 : decode cX1_leastPosts 91 = .ok (.istore 5, 2) := by decide +kernel
theorem dX1_leastPosts_93 : decode cX1_leastPosts 93 = .ok (.iinc 6 1, 3) := by decide +kernel
theorem dX1_leastPosts_96 : decode cX1_leastPosts 96 = .ok (.goto (-68), 3) := by decide +kernel
theorem dX1_leastPosts_99 : decode cX1_leastPosts 99 = .ok (.iload 5, 2) := by decide +kernel
theorem dX1_leastPosts_101 : decode cX1_leastPosts 101 = .ok (.ireturn, 1) := by decide +kernel
theorem dX2_init_0 : decode cX2_init 0 = .ok (.aload_n 0, 1) := by decide +kernel
theorem dX2_init_1 : decode cX2_init 1 = .ok (.invokespecial 3, 3) := by decide +kernel
theorem dX2_init_4 : decode cX2_init 4 = .ok (.aload_n 0, 1) := by decide +kernel
theorem dX2_init_5 : decode cX2_init 5 = .ok (.sipush 240, 3) := by decide +kernel
theorem dX2_init_8 : decode cX2_init 8 = .ok (.newarray .int, 2) := by decide +kernel
theorem dX2_init_10 : decode cX2_init 10 = .ok (.putfield 11, 3) := by decide +kernel
theorem dX2_init_13 : decode cX2_init 13 = .ok (.aload_n 0, 1) := by decide +kernel
theorem dX2_init_14 : decode cX2_init 14 = .ok (.sipush 240, 3) := by decide +kernel
theorem dX2_init_17 : decode cX2_init 17 = .ok (.newarray .int, 2) := by decide +kernel
theorem dX2_init_19 : decode cX2_init 19 = .ok (.putfield 15, 3) := by decide +kernel
theorem dX2_init_22 : decode cX2_init 22 = .ok (.aload_n 0, 1) := by decide +kernel
theorem dX2_init_23 : decode cX2_init 23 = .ok (.bipush 16, 2) := by decide +kernel
theorem dX2_init_25 : decode cX2_init 25 = .ok (.newarray .int, 2) := by decide +kernel
theorem dX2_init_27 : decode cX2_init 27 = .ok (.putfield 18, 3) := by decide +kernel
theorem dX2_init_30 : decode cX2_init 30 = .ok (.aload_n 0, 1) := by decide +kernel
theorem dX2_init_31 : decode cX2_init 31 = .ok (.bipush 16, 2) := by decide +kernel
theorem dX2_init_33 : decode cX2_init 33 = .ok (.newarray .int, 2) := by decide +kernel
theorem dX2_init_35 : decode cX2_init 35 = .ok (.putfield 21, 3) := by decide +kernel
theorem dX2_init_38 : decode cX2_init 38 = .ok (.aload_n 0, 1) := by decide +kernel
theorem dX2_init_39 : decode cX2_init 39 = .ok (.bipush 16, 2) := by decide +kernel
theorem dX2_init_41 : decode cX2_init 41 = .ok (.newarray .int, 2) := by decide +kernel
theorem dX2_init_43 : decode cX2_init 43 = .ok (.putfield 24, 3) := by decide +kernel
theorem dX2_init_46 : decode cX2_init 46 = .ok (.aload_n 0, 1) := by decide +kernel
theorem dX2_init_47 : decode cX2_init 47 = .ok (.bipush 16, 2) := by decide +kernel
theorem dX2_init_49 : decode cX2_init 49 = .ok (.newarray .int, 2) := by decide +kernel
theorem dX2_init_51 : decode cX2_init 51 = .ok (.putfield 27, 3) := by decide +kernel
theorem dX2_init_54 : decode cX2_init 54 = .ok (.aload_n 0, 1) := by decide +kernel
theorem dX2_init_55 : decode cX2_init 55 = .ok (.sipush 240, 3) := by decide +kernel
theorem dX2_init_58 : decode cX2_init 58 = .ok (.newarray .int, 2) := by decide +kernel
theorem dX2_init_60 : decode cX2_init 60 = .ok (.putfield 30, 3) := by decide +kernel
theorem dX2_init_63 : decode cX2_init 63 = .ok (.aload_n 0, 1) := by decide +kernel
theorem dX2_init_64 : decode cX2_init 64 = .ok (.iconst 0, 1) := by decide +kernel
theorem dX2_init_65 : decode cX2_init 65 = .ok (.putfield 33, 3) := by decide +kernel
theorem dX2_init_68 : decode cX2_init 68 = .ok (.aload_n 0, 1) := by decide +kernel
theorem dX2_init_69 : decode cX2_init 69 = .ok (.iconst 0, 1) := by decide +kernel
theorem dX2_init_70 : decode cX2_init 70 = .ok (.putfield 37, 3) := by decide +kernel
theorem dX2_init_73 : decode cX2_init 73 = .ok (.aload_n 0, 1) := by decide +kernel
theorem dX2_init_74 : decode cX2_init 74 = .ok (.iconst 0, 1) := by decide +kernel
theorem dX2_init_75 : decode cX2_init 75 = .ok (.putfield 41, 3) := by decide +kernel
theorem dX2_init_78 : decode cX2_init 78 = .ok (.return_, 1) := by decide +kernel
theorem dX2_read_0 : decode cX2_read 0 = .ok (.aload_n 0, 1) := by decide +kernel
theorem dX2_read_1 : decode cX2_read 1 = .ok (.iconst 0, 1) := by decide +kernel
theorem dX2_read_2 : decode cX2_read 2 = .ok (.putfield 33, 3) := by decide +kernel
theorem dX2_read_5 : decode cX2_read 5 = .ok (.aload_n 0, 1) := by decide +kernel
theorem dX2_read_6 : decode cX2_read 6 = .ok (.iconst 0, 1) := by decide +kernel
theorem dX2_read_7 : decode cX2_read 7 = .ok (.putfield 41, 3) := by decide +kernel
theorem dX2_read_10 : decode cX2_read 10 = .ok (.iconst 1, 1) := by decide +kernel
theorem dX2_read_11 : decode cX2_read 11 = .ok (.istore_n 2, 1) := by decide +kernel
theorem dX2_read_12 : decode cX2_read 12 = .ok (.iconst 0, 1) := by decide +kernel
theorem dX2_read_13 : decode cX2_read 13 = .ok (.istore_n 3, 1) := by decide +kernel
theorem dX2_read_14 : decode cX2_read 14 = .ok (.iload_n 2, 1) := by decide +kernel
theorem dX2_read_15 : decode cX2_read 15 = .ok (.ifCond .eq 26, 3) := by decide +kernel
theorem dX2_read_18 : decode cX2_read 18 = .ok (.iload_n 3, 1) := by decide +kernel
theorem dX2_read_19 : decode cX2_read 19 = .ok (.sipush 240, 3) := by decide +kernel
theorem dX2_read_22 : decode cX2_read 22 = .ok (.if_icmp .ge 19, 3) := by decide +kernel
theorem dX2_read_25 : decode cX2_read 25 = .ok (.aload_n 0, 1) := by decide +kernel
theorem dX2_read_26 : decode cX2_read 26 = .ok (.aload_n 1, 1) := by decide +kernel
theorem dX2_read_27 : decode cX2_read 27 = .ok (.invokevirtual 44, 3) := by decide +kernel
theorem dX2_read_30 : decode cX2_read 30 = .ok (.aload_n 1, 1) := by decide +kernel
theorem dX2_read_31 : decode cX2_read 31 = .ok (.invokevirtual 48, 3) := by decide +kernel
theorem dX2_read_34 : decode cX2_read 34 = .ok (.istore_n 2, 1) := by decide +kernel
theorem dX2_read_35 : decode cX2_read 35 = .ok (.iinc 3 1, 3) := by decide +kernel
theorem dX2_read_38 : decode cX2_read 38 = .ok (.goto (-24), 3) := by decide +kernel
theorem dX2_read_41 : decode cX2_read 41 = .ok (.return_, 1) := by decide +kernel
theorem dX2_rule_0 : decode cX2_rule 0 = .ok (.aload_n 1, 1) := by decide +kernel
theorem dX2_rule_1 : decode cX2_rule 1 = .ok (.invokevirtual 54, 3) := by decide +kernel
theorem dX2_rule_4 : decode cX2_rule 4 = .ok (.istore_n 2, 1) := by decide +kernel
theorem dX2_rule_5 : decode cX2_rule 5 = .ok (.iload_n 2, 1) := by decide +kernel
theorem dX2_rule_6 : decode cX2_rule 6 = .ok (.bipush 119, 2) := by decide +kernel
theorem dX2_rule_8 : decode cX2_rule 8 = .ok (.if_icmp .eq 21, 3) := by decide +kernel
theorem dX2_rule_11 : decode cX2_rule 11 = .ok (.iload_n 2, 1) := by decide +kernel
theorem dX2_rule_12 : decode cX2_rule 12 = .ok (.bipush 114, 2) := by decide +kernel
theorem dX2_rule_14 : decode cX2_rule 14 = .ok (.if_icmp .eq 15, 3) := by decide +kernel
theorem dX2_rule_17 : decode cX2_rule 17 = .ok (.iload_n 2, 1) := by decide +kernel
theorem dX2_rule_18 : decode cX2_rule 18 = .ok (.bipush 115, 2) := by decide +kernel
theorem dX2_rule_20 : decode cX2_rule 20 = .ok (.if_icmp .eq 9, 3) := by decide +kernel
theorem dX2_rule_23 : decode cX2_rule 23 = .ok (.aload_n 1, 1) := by decide +kernel
theorem dX2_rule_24 : decode cX2_rule 24 = .ok (.iconst 1, 1) := by decide +kernel
theorem dX2_rule_25 : decode cX2_rule 25 = .ok (.invokevirtual 58, 3) := by decide +kernel
theorem dX2_rule_28 : decode cX2_rule 28 = .ok (.return_, 1) := by decide +kernel
theorem dX2_rule_29 : decode cX2_rule 29 = .ok (.aload_n 0, 1) := by decide +kernel
theorem dX2_rule_30 : decode cX2_rule 30 = .ok (.getfield 41, 3) := by decide +kernel
theorem dX2_rule_33 : decode cX2_rule 33 = .ok (.bipush 16, 2) := by decide +kernel
theorem dX2_rule_35 : decode cX2_rule 35 = .ok (.if_icmp .lt 9, 3) := by decide +kernel
theorem dX2_rule_38 : decode cX2_rule 38 = .ok (.aload_n 1, 1) := by decide +kernel
theorem dX2_rule_39 : decode cX2_rule 39 = .ok (.iconst 4, 1) := by decide +kernel
theorem dX2_rule_40 : decode cX2_rule 40 = .ok (.invokevirtual 58, 3) := by decide +kernel
theorem dX2_rule_43 : decode cX2_rule 43 = .ok (.return_, 1) := by decide +kernel
theorem dX2_rule_44 : decode cX2_rule 44 = .ok (.aload_n 1, 1) := by decide +kernel
theorem dX2_rule_45 : decode cX2_rule 45 = .ok (.invokevirtual 62, 3) := by decide +kernel
theorem dX2_rule_48 : decode cX2_rule 48 = .ok (.aload_n 0, 1) := by decide +kernel
theorem dX2_rule_49 : decode cX2_rule 49 = .ok (.getfield 18, 3) := by decide +kernel
theorem dX2_rule_52 : decode cX2_rule 52 = .ok (.aload_n 0, 1) := by decide +kernel
theorem dX2_rule_53 : decode cX2_rule 53 = .ok (.getfield 41, 3) := by decide +kernel
theorem dX2_rule_56 : decode cX2_rule 56 = .ok (.iload_n 2, 1) := by decide +kernel
theorem dX2_rule_57 : decode cX2_rule 57 = .ok (.invokestatic 65, 3) := by decide +kernel
theorem dX2_rule_60 : decode cX2_rule 60 = .ok (.aload_n 0, 1) := by decide +kernel
theorem dX2_rule_61 : decode cX2_rule 61 = .ok (.getfield 21, 3) := by decide +kernel
theorem dX2_rule_64 : decode cX2_rule 64 = .ok (.aload_n 0, 1) := by decide +kernel
theorem dX2_rule_65 : decode cX2_rule 65 = .ok (.getfield 41, 3) := by decide +kernel
theorem dX2_rule_68 : decode cX2_rule 68 = .ok (.aload_n 0, 1) := by decide +kernel
theorem dX2_rule_69 : decode cX2_rule 69 = .ok (.getfield 33, 3) := by decide +kernel
theorem dX2_rule_72 : decode cX2_rule 72 = .ok (.invokestatic 65, 3) := by decide +kernel
theorem dX2_rule_75 : decode cX2_rule 75 = .ok (.iload_n 2, 1) := by decide +kernel
theorem dX2_rule_76 : decode cX2_rule 76 = .ok (.bipush 115, 2) := by decide +kernel
theorem dX2_rule_78 : decode cX2_rule 78 = .ok (.if_icmp .eq 9, 3) := by decide +kernel
theorem dX2_rule_81 : decode cX2_rule 81 = .ok (.aload_n 0, 1) := by decide +kernel
theorem dX2_rule_82 : decode cX2_rule 82 = .ok (.aload_n 1, 1) := by decide +kernel
theorem dX2_rule_83 : decode cX2_rule 83 = .ok (.iconst 0, 1) := by decide +kernel
theorem dX2_rule_84 : decode cX2_rule 84 = .ok (.invokevirtual 69, 3) := by decide +kernel
theorem dX2_rule_87 : decode cX2_rule 87 = .ok (.aload_n 0, 1) := by decide +kernel
theorem dX2_rule_88 : decode cX2_rule 88 = .ok (.getfield 24, 3) := by decide +kernel
theorem dX2_rule_91 : decode cX2_rule 91 = .ok (.aload_n 0, 1) := by decide +kernel
theorem dX2_rule_92 : decode cX2_rule 92 = .ok (.getfield 41, 3) := by decide +kernel
theorem dX2_rule_95 : decode cX2_rule 95 = .ok (.aload_n 0, 1) := by decide +kernel
theorem dX2_rule_96 : decode cX2_rule 96 = .ok (.getfield 33, 3) := by decide +kernel
theorem dX2_rule_99 : decode cX2_rule 99 = .ok (.invokestatic 65, 3) := by decide +kernel
theorem dX2_rule_102 : decode cX2_rule 102 = .ok (.aload_n 1, 1) := by decide +kernel
theorem dX2_rule_103 : decode cX2_rule 103 = .ok (.bipush 40, 2) := by decide +kernel
theorem dX2_rule_105 : decode cX2_rule 105 = .ok (.invokevirtual 73, 3) := by decide +kernel
theorem dX2_rule_108 : decode cX2_rule 108 = .ok (.ifCond .eq 16, 3) := by decide +kernel
theorem dX2_rule_111 : decode cX2_rule 111 = .ok (.aload_n 0, 1) := by decide +kernel
theorem dX2_rule_112 : decode cX2_rule 112 = .ok (.aload_n 1, 1) := by decide +kernel
theorem dX2_rule_113 : decode cX2_rule 113 = .ok (.iconst 1, 1) := by decide +kernel
theorem dX2_rule_114 : decode cX2_rule 114 = .ok (.invokevirtual 77, 3) := by decide +kernel
theorem dX2_rule_117 : decode cX2_rule 117 = .ok (.aload_n 1, 1) := by decide +kernel
theorem dX2_rule_118 : decode cX2_rule 118 = .ok (.bipush 41, 2) := by decide +kernel
theorem dX2_rule_120 : decode cX2_rule 120 = .ok (.invokevirtual 73, 3) := by decide +kernel
theorem dX2_rule_123 : decode cX2_rule 123 = .ok (.pop, 1) := by decide +kernel
theorem dX2_rule_124 : decode cX2_rule 124 = .ok (.aload_n 0, 1) := by decide +kernel
theorem dX2_rule_125 : decode cX2_rule 125 = .ok (.getfield 27, 3) := by decide +kernel
theorem dX2_rule_128 : decode cX2_rule 128 = .ok (.aload_n 0, 1) := by decide +kernel
theorem dX2_rule_129 : decode cX2_rule 129 = .ok (.getfield 41, 3) := by decide +kernel
theorem dX2_rule_132 : decode cX2_rule 132 = .ok (.aload_n 0, 1) := by decide +kernel
theorem dX2_rule_133 : decode cX2_rule 133 = .ok (.getfield 33, 3) := by decide +kernel
theorem dX2_rule_136 : decode cX2_rule 136 = .ok (.invokestatic 65, 3) := by decide +kernel
theorem dX2_rule_139 : decode cX2_rule 139 = .ok (.aload_n 0, 1) := by decide +kernel
theorem dX2_rule_140 : decode cX2_rule 140 = .ok (.dup, 1) := by decide +kernel
theorem dX2_rule_141 : decode cX2_rule 141 = .ok (.getfield 41, 3) := by decide +kernel
theorem dX2_rule_144 : decode cX2_rule 144 = .ok (.iconst 1, 1) := by decide +kernel
theorem dX2_rule_145 : decode cX2_rule 145 = .ok (.iadd, 1) := by decide +kernel
theorem dX2_rule_146 : decode cX2_rule 146 = .ok (.putfield 41, 3) := by decide +kernel
theorem dX2_rule_149 : decode cX2_rule 149 = .ok (.return_, 1) := by decide +kernel
theorem dX2_opens_0 : decode cX2_opens 0 = .ok (.iload_n 1, 1) := by decide +kernel
theorem dX2_opens_1 : decode cX2_opens 1 = .ok (.bipush 6, 2) := by decide +kernel
theorem dX2_opens_3 : decode cX2_opens 3 = .ok (.if_icmp .lt 10, 3) := by decide +kernel
theorem dX2_opens_6 : decode cX2_opens 6 = .ok (.aload_n 0, 1) := by decide +kernel
theorem dX2_opens_7 : decode cX2_opens 7 = .ok (.iconst 5, 1) := by decide +kernel
theorem dX2_opens_8 : decode cX2_opens 8 = .ok (.invokevirtual 58, 3) := by decide +kernel
theorem dX2_opens_11 : decode cX2_opens 11 = .ok (.iconst 0, 1) := by decide +kernel
theorem dX2_opens_12 : decode cX2_opens 12 = .ok (.ireturn, 1) := by decide +kernel
theorem dX2_opens_13 : decode cX2_opens 13 = .ok (.aload_n 0, 1) := by decide +kernel
theorem dX2_opens_14 : decode cX2_opens 14 = .ok (.invokevirtual 62, 3) := by decide +kernel
theorem dX2_opens_17 : decode cX2_opens 17 = .ok (.iconst 1, 1) := by decide +kernel
theorem dX2_opens_18 : decode cX2_opens 18 = .ok (.ireturn, 1) := by decide +kernel
theorem dX2_anyOf_0 : decode cX2_anyOf 0 = .ok (.aload_n 0, 1) := by decide +kernel
theorem dX2_anyOf_1 : decode cX2_anyOf 1 = .ok (.aload_n 1, 1) := by decide +kernel
theorem dX2_anyOf_2 : decode cX2_anyOf 2 = .ok (.iload_n 2, 1) := by decide +kernel
theorem dX2_anyOf_3 : decode cX2_anyOf 3 = .ok (.invokevirtual 80, 3) := by decide +kernel
theorem dX2_anyOf_6 : decode cX2_anyOf 6 = .ok (.iconst 0, 1) := by decide +kernel
theorem dX2_anyOf_7 : decode cX2_anyOf 7 = .ok (.istore_n 3, 1) := by decide +kernel
theorem dX2_anyOf_8 : decode cX2_anyOf 8 = .ok (.iload_n 3, 1) := by decide +kernel
theorem dX2_anyOf_9 : decode cX2_anyOf 9 = .ok (.sipush 240, 3) := by decide +kernel
theorem dX2_anyOf_12 : decode cX2_anyOf 12 = .ok (.if_icmp .ge 56, 3) := by decide +kernel
theorem dX2_anyOf_15 : decode cX2_anyOf 15 = .ok (.aload_n 1, 1) := by decide +kernel
theorem dX2_anyOf_16 : decode cX2_anyOf 16 = .ok (.invokevirtual 83, 3) := by decide +kernel
theorem dX2_anyOf_19 : decode cX2_anyOf 19 = .ok (.ifCond .eq 49, 3) := by decide +kernel
theorem dX2_anyOf_22 : decode cX2_anyOf 22 = .ok (.aload_n 1, 1) := by decide +kernel
theorem dX2_anyOf_23 : decode cX2_anyOf 23 = .ok (.invokevirtual 54, 3) := by decide +kernel
theorem dX2_anyOf_26 : decode cX2_anyOf 26 = .ok (.bipush 124, 2) := by decide +kernel
theorem dX2_anyOf_28 : decode cX2_anyOf 28 = .ok (.if_icmp .ne 40, 3) := by decide +kernel
theorem dX2_anyOf_31 : decode cX2_anyOf 31 = .ok (.aload_n 1, 1) := by decide +kernel
theorem dX2_anyOf_32 : decode cX2_anyOf 32 = .ok (.invokevirtual 62, 3) := by decide +kernel
theorem dX2_anyOf_35 : decode cX2_anyOf 35 = .ok (.aload_n 0, 1) := by decide +kernel
theorem dX2_anyOf_36 : decode cX2_anyOf 36 = .ok (.iconst 5, 1) := by decide +kernel
theorem dX2_anyOf_37 : decode cX2_anyOf 37 = .ok (.iconst 0, 1) := by decide +kernel
theorem dX2_anyOf_38 : decode cX2_anyOf 38 = .ok (.invokevirtual 86, 3) := by decide +kernel
theorem dX2_anyOf_41 : decode cX2_anyOf 41 = .ok (.istore 4, 2) := by decide +kernel
theorem dX2_anyOf_43 : decode cX2_anyOf 43 = .ok (.aload_n 0, 1) := by decide +kernel
theorem dX2_anyOf_44 : decode cX2_anyOf 44 = .ok (.aload_n 1, 1) := by decide +kernel
theorem dX2_anyOf_45 : decode cX2_anyOf 45 = .ok (.iload_n 2, 1) := by decide +kernel
theorem dX2_anyOf_46 : decode cX2_anyOf 46 = .ok (.invokevirtual 80, 3) := by decide +kernel
theorem dX2_anyOf_49 : decode cX2_anyOf 49 = .ok (.aload_n 0, 1) := by decide +kernel
theorem dX2_anyOf_50 : decode cX2_anyOf 50 = .ok (.getfield 15, 3) := by decide +kernel
theorem dX2_anyOf_53 : decode cX2_anyOf 53 = .ok (.iload 4, 2) := by decide +kernel
theorem dX2_anyOf_55 : decode cX2_anyOf 55 = .ok (.aload_n 0, 1) := by decide +kernel
theorem dX2_anyOf_56 : decode cX2_anyOf 56 = .ok (.getfield 33, 3) := by decide +kernel
theorem dX2_anyOf_59 : decode cX2_anyOf 59 = .ok (.invokestatic 65, 3) := by decide +kernel
theorem dX2_anyOf_62 : decode cX2_anyOf 62 = .ok (.iinc 3 1, 3) := by decide +kernel
theorem dX2_anyOf_65 : decode cX2_anyOf 65 = .ok (.goto (-57), 3) := by decide +kernel
theorem dX2_anyOf_68 : decode cX2_anyOf 68 = .ok (.return_, 1) := by decide +kernel
theorem dX2_allOf_0 : decode cX2_allOf 0 = .ok (.aload_n 0, 1) := by decide +kernel
theorem dX2_allOf_1 : decode cX2_allOf 1 = .ok (.aload_n 1, 1) := by decide +kernel
theorem dX2_allOf_2 : decode cX2_allOf 2 = .ok (.iload_n 2, 1) := by decide +kernel
theorem dX2_allOf_3 : decode cX2_allOf 3 = .ok (.invokevirtual 90, 3) := by decide +kernel
theorem dX2_allOf_6 : decode cX2_allOf 6 = .ok (.iconst 0, 1) := by decide +kernel
theorem dX2_allOf_7 : decode cX2_allOf 7 = .ok (.istore_n 3, 1) := by decide +kernel
theorem dX2_allOf_8 : decode cX2_allOf 8 = .ok (.iload_n 3, 1) := by decide +kernel
theorem dX2_allOf_9 : decode cX2_allOf 9 = .ok (.sipush 240, 3) := by decide +kernel
theorem dX2_allOf_12 : decode cX2_allOf 12 = .ok (.if_icmp .ge 56, 3) := by decide +kernel
theorem dX2_allOf_15 : decode cX2_allOf 15 = .ok (.aload_n 1, 1) := by decide +kernel
theorem dX2_allOf_16 : decode cX2_allOf 16 = .ok (.invokevirtual 83, 3) := by decide +kernel
theorem dX2_allOf_19 : decode cX2_allOf 19 = .ok (.ifCond .eq 49, 3) := by decide +kernel
theorem dX2_allOf_22 : decode cX2_allOf 22 = .ok (.aload_n 1, 1) := by decide +kernel
theorem dX2_allOf_23 : decode cX2_allOf 23 = .ok (.invokevirtual 54, 3) := by decide +kernel
theorem dX2_allOf_26 : decode cX2_allOf 26 = .ok (.bipush 38, 2) := by decide +kernel
theorem dX2_allOf_28 : decode cX2_allOf 28 = .ok (.if_icmp .ne 40, 3) := by decide +kernel
theorem dX2_allOf_31 : decode cX2_allOf 31 = .ok (.aload_n 1, 1) := by decide +kernel
theorem dX2_allOf_32 : decode cX2_allOf 32 = .ok (.invokevirtual 62, 3) := by decide +kernel
theorem dX2_allOf_35 : decode cX2_allOf 35 = .ok (.aload_n 0, 1) := by decide +kernel
theorem dX2_allOf_36 : decode cX2_allOf 36 = .ok (.iconst 4, 1) := by decide +kernel
theorem dX2_allOf_37 : decode cX2_allOf 37 = .ok (.iconst 0, 1) := by decide +kernel
theorem dX2_allOf_38 : decode cX2_allOf 38 = .ok (.invokevirtual 86, 3) := by decide +kernel
theorem dX2_allOf_41 : decode cX2_allOf 41 = .ok (.istore 4, 2) := by decide +kernel
theorem dX2_allOf_43 : decode cX2_allOf 43 = .ok (.aload_n 0, 1) := by decide +kernel
theorem dX2_allOf_44 : decode cX2_allOf 44 = .ok (.aload_n 1, 1) := by decide +kernel
theorem dX2_allOf_45 : decode cX2_allOf 45 = .ok (.iload_n 2, 1) := by decide +kernel
theorem dX2_allOf_46 : decode cX2_allOf 46 = .ok (.invokevirtual 90, 3) := by decide +kernel
theorem dX2_allOf_49 : decode cX2_allOf 49 = .ok (.aload_n 0, 1) := by decide +kernel
theorem dX2_allOf_50 : decode cX2_allOf 50 = .ok (.getfield 15, 3) := by decide +kernel
theorem dX2_allOf_53 : decode cX2_allOf 53 = .ok (.iload 4, 2) := by decide +kernel
theorem dX2_allOf_55 : decode cX2_allOf 55 = .ok (.aload_n 0, 1) := by decide +kernel
theorem dX2_allOf_56 : decode cX2_allOf 56 = .ok (.getfield 33, 3) := by decide +kernel
theorem dX2_allOf_59 : decode cX2_allOf 59 = .ok (.invokestatic 65, 3) := by decide +kernel
theorem dX2_allOf_62 : decode cX2_allOf 62 = .ok (.iinc 3 1, 3) := by decide +kernel
theorem dX2_allOf_65 : decode cX2_allOf 65 = .ok (.goto (-57), 3) := by decide +kernel
theorem dX2_allOf_68 : decode cX2_allOf 68 = .ok (.return_, 1) := by decide +kernel
theorem dX2_test_0 : decode cX2_test 0 = .ok (.aload_n 1, 1) := by decide +kernel
theorem dX2_test_1 : decode cX2_test 1 = .ok (.invokevirtual 54, 3) := by decide +kernel
theorem dX2_test_4 : decode cX2_test 4 = .ok (.istore_n 3, 1) := by decide +kernel
theorem dX2_test_5 : decode cX2_test 5 = .ok (.iload_n 3, 1) := by decide +kernel
theorem dX2_test_6 : decode cX2_test 6 = .ok (.bipush 33, 2) := by decide +kernel
theorem dX2_test_8 : decode cX2_test 8 = .ok (.if_icmp .ne 29, 3) := by decide +kernel
theorem dX2_test_11 : decode cX2_test 11 = .ok (.aload_n 1, 1) := by decide +kernel
theorem dX2_test_12 : decode cX2_test 12 = .ok (.iload_n 2, 1) := by decide +kernel
theorem dX2_test_13 : decode cX2_test 13 = .ok (.invokestatic 93, 3) := by decide +kernel
theorem dX2_test_16 : decode cX2_test 16 = .ok (.ifCond .eq 112, 3) := by decide +kernel
theorem dX2_test_19 : decode cX2_test 19 = .ok (.aload_n 0, 1) := by decide +kernel
theorem dX2_test_20 : decode cX2_test 20 = .ok (.aload_n 1, 1) := by decide +kernel
theorem dX2_test_21 : decode cX2_test 21 = .ok (.iload_n 2, 1) := by decide +kernel
theorem dX2_test_22 : decode cX2_test 22 = .ok (.iconst 1, 1) := by decide +kernel
theorem dX2_test_23 : decode cX2_test 23 = .ok (.iadd, 1) := by decide +kernel
theorem dX2_test_24 : decode cX2_test 24 = .ok (.invokevirtual 90, 3) := by decide +kernel
theorem dX2_test_27 : decode cX2_test 27 = .ok (.aload_n 0, 1) := by decide +kernel
theorem dX2_test_28 : decode cX2_test 28 = .ok (.iconst 3, 1) := by decide +kernel
theorem dX2_test_29 : decode cX2_test 29 = .ok (.iconst 0, 1) := by decide +kernel
theorem dX2_test_30 : decode cX2_test 30 = .ok (.invokevirtual 86, 3) := by decide +kernel
theorem dX2_test_33 : decode cX2_test 33 = .ok (.pop, 1) := by decide +kernel
theorem dX2_test_34 : decode cX2_test 34 = .ok (.goto 94, 3) := by decide +kernel
theorem dX2_test_37 : decode cX2_test 37 = .ok (.iload_n 3, 1) := by decide +kernel
theorem dX2_test_38 : decode cX2_test 38 = .ok (.bipush 40, 2) := by decide +kernel
theorem dX2_test_40 : decode cX2_test 40 = .ok (.if_icmp .ne 29, 3) := by decide +kernel
theorem dX2_test_43 : decode cX2_test 43 = .ok (.aload_n 1, 1) := by decide +kernel
theorem dX2_test_44 : decode cX2_test 44 = .ok (.iload_n 2, 1) := by decide +kernel
theorem dX2_test_45 : decode cX2_test 45 = .ok (.invokestatic 93, 3) := by decide +kernel
theorem dX2_test_48 : decode cX2_test 48 = .ok (.ifCond .eq 80, 3) := by decide +kernel
theorem dX2_test_51 : decode cX2_test 51 = .ok (.aload_n 0, 1) := by decide +kernel
theorem dX2_test_52 : decode cX2_test 52 = .ok (.aload_n 1, 1) := by decide +kernel
theorem dX2_test_53 : decode cX2_test 53 = .ok (.iload_n 2, 1) := by decide +kernel
theorem dX2_test_54 : decode cX2_test 54 = .ok (.iconst 1, 1) := by decide +kernel
theorem dX2_test_55 : decode cX2_test 55 = .ok (.iadd, 1) := by decide +kernel
theorem dX2_test_56 : decode cX2_test 56 = .ok (.invokevirtual 77, 3) := by decide +kernel
theorem dX2_test_59 : decode cX2_test 59 = .ok (.aload_n 1, 1) := by decide +kernel
theorem dX2_test_60 : decode cX2_test 60 = .ok (.bipush 41, 2) := by decide +kernel
theorem dX2_test_62 : decode cX2_test 62 = .ok (.invokevirtual 73, 3) := by decide +kernel
theorem dX2_test_65 : decode cX2_test 65 = .ok (.pop, 1) := by decide +kernel
theorem dX2_test_66 : decode cX2_test 66 = .ok (.goto 62, 3) := by decide +kernel
theorem dX2_test_69 : decode cX2_test 69 = .ok (.aload_n 0, 1) := by decide +kernel
theorem dX2_test_70 : decode cX2_test 70 = .ok (.aload_n 1, 1) := by decide +kernel
theorem dX2_test_71 : decode cX2_test 71 = .ok (.iload_n 2, 1) := by decide +kernel
theorem dX2_test_72 : decode cX2_test 72 = .ok (.invokevirtual 69, 3) := by decide +kernel
theorem dX2_test_75 : decode cX2_test 75 = .ok (.aload_n 1, 1) := by decide +kernel
theorem dX2_test_76 : decode cX2_test 76 = .ok (.invokevirtual 54, 3) := by decide +kernel
theorem dX2_test_79 : decode cX2_test 79 = .ok (.istore 4, 2) := by decide +kernel
theorem dX2_test_81 : decode cX2_test 81 = .ok (.iload 4, 2) := by decide +kernel
theorem dX2_test_83 : decode cX2_test 83 = .ok (.bipush 60, 2) := by decide +kernel
theorem dX2_test_85 : decode cX2_test 85 = .ok (.if_icmp .eq 17, 3) := by decide +kernel
theorem dX2_test_88 : decode cX2_test 88 = .ok (.iload 4, 2) := by decide +kernel
theorem dX2_test_90 : decode cX2_test 90 = .ok (.bipush 62, 2) := by decide +kernel
theorem dX2_test_92 : decode cX2_test 92 = .ok (.if_icmp .eq 10, 3) := by decide +kernel
theorem dX2_test_95 : decode cX2_test 95 = .ok (.iload 4, 2) := by decide +kernel
theorem dX2_test_97 : decode cX2_test 97 = .ok (.bipush 61, 2) := by decide +kernel
theorem dX2_test_99 : decode cX2_test 99 = .ok (.if_icmp .ne 24, 3) := by decide +kernel
theorem dX2_test_102 : decode cX2_test 102 = .ok (.aload_n 1, 1) := by decide +kernel
theorem dX2_test_103 : decode cX2_test 103 = .ok (.invokevirtual 62, 3) := by decide +kernel
theorem dX2_test_106 : decode cX2_test 106 = .ok (.aload_n 0, 1) := by decide +kernel
theorem dX2_test_107 : decode cX2_test 107 = .ok (.aload_n 1, 1) := by decide +kernel
theorem dX2_test_108 : decode cX2_test 108 = .ok (.iload_n 2, 1) := by decide +kernel
theorem dX2_test_109 : decode cX2_test 109 = .ok (.invokevirtual 69, 3) := by decide +kernel
theorem dX2_test_112 : decode cX2_test 112 = .ok (.aload_n 0, 1) := by decide +kernel
theorem dX2_test_113 : decode cX2_test 113 = .ok (.iload 4, 2) := by decide +kernel
theorem dX2_test_115 : decode cX2_test 115 = .ok (.iconst 0, 1) := by decide +kernel
theorem dX2_test_116 : decode cX2_test 116 = .ok (.invokevirtual 86, 3) := by decide +kernel
theorem dX2_test_119 : decode cX2_test 119 = .ok (.pop, 1) := by decide +kernel
theorem dX2_test_120 : decode cX2_test 120 = .ok (.goto 8, 3) := by decide +kernel
theorem dX2_test_123 : decode cX2_test 123 = .ok (.aload_n 1, 1) := by decide +kernel
theorem dX2_test_124 : decode cX2_test 124 = .ok (.iconst 1, 1) := by decide +kernel
theorem dX2_test_125 : decode cX2_test 125 = .ok (.invokevirtual 58, 3) := by decide +kernel
theorem dX2_test_128 : decode cX2_test 128 = .ok (.return_, 1) := by decide +kernel
theorem dX2_sum_0 : decode cX2_sum 0 = .ok (.aload_n 0, 1) := by decide +kernel
theorem dX2_sum_1 : decode cX2_sum 1 = .ok (.aload_n 1, 1) := by decide +kernel
theorem dX2_sum_2 : decode cX2_sum 2 = .ok (.iload_n 2, 1) := by decide +kernel
theorem dX2_sum_3 : decode cX2_sum 3 = .ok (.invokevirtual 97, 3) := by decide +kernel
theorem dX2_sum_6 : decode cX2_sum 6 = .ok (.iconst 0, 1) := by decide +kernel
theorem dX2_sum_7 : decode cX2_sum 7 = .ok (.istore_n 3, 1) := by decide +kernel
theorem dX2_sum_8 : decode cX2_sum 8 = .ok (.iload_n 3, 1) := by decide +kernel
theorem dX2_sum_9 : decode cX2_sum 9 = .ok (.sipush 240, 3) := by decide +kernel
theorem dX2_sum_12 : decode cX2_sum 12 = .ok (.if_icmp .ge 55, 3) := by decide +kernel
theorem dX2_sum_15 : decode cX2_sum 15 = .ok (.aload_n 1, 1) := by decide +kernel
theorem dX2_sum_16 : decode cX2_sum 16 = .ok (.invokevirtual 83, 3) := by decide +kernel
theorem dX2_sum_19 : decode cX2_sum 19 = .ok (.ifCond .eq 48, 3) := by decide +kernel
theorem dX2_sum_22 : decode cX2_sum 22 = .ok (.aload_n 1, 1) := by decide +kernel
theorem dX2_sum_23 : decode cX2_sum 23 = .ok (.invokevirtual 54, 3) := by decide +kernel
theorem dX2_sum_26 : decode cX2_sum 26 = .ok (.istore 4, 2) := by decide +kernel
theorem dX2_sum_28 : decode cX2_sum 28 = .ok (.iload 4, 2) := by decide +kernel
theorem dX2_sum_30 : decode cX2_sum 30 = .ok (.bipush 43, 2) := by decide +kernel
theorem dX2_sum_32 : decode cX2_sum 32 = .ok (.if_icmp .eq 11, 3) := by decide +kernel
theorem dX2_sum_35 : decode cX2_sum 35 = .ok (.iload 4, 2) := by decide +kernel
theorem dX2_sum_37 : decode cX2_sum 37 = .ok (.bipush 45, 2) := by decide +kernel
theorem dX2_sum_39 : decode cX2_sum 39 = .ok (.if_icmp .eq 4, 3) := by decide +kernel
theorem dX2_sum_42 : decode cX2_sum 42 = .ok (.return_, 1) := by decide +kernel
theorem dX2_sum_43 : decode cX2_sum 43 = .ok (.aload_n 1, 1) := by decide +kernel
theorem dX2_sum_44 : decode cX2_sum 44 = .ok (.invokevirtual 62, 3) := by decide +kernel
theorem dX2_sum_47 : decode cX2_sum 47 = .ok (.aload_n 0, 1) := by decide +kernel
theorem dX2_sum_48 : decode cX2_sum 48 = .ok (.aload_n 1, 1) := by decide +kernel
theorem dX2_sum_49 : decode cX2_sum 49 = .ok (.iload_n 2, 1) := by decide +kernel
theorem dX2_sum_50 : decode cX2_sum 50 = .ok (.invokevirtual 97, 3) := by decide +kernel
theorem dX2_sum_53 : decode cX2_sum 53 = .ok (.aload_n 0, 1) := by decide +kernel
theorem dX2_sum_54 : decode cX2_sum 54 = .ok (.iload 4, 2) := by decide +kernel
theorem dX2_sum_56 : decode cX2_sum 56 = .ok (.iconst 0, 1) := by decide +kernel
theorem dX2_sum_57 : decode cX2_sum 57 = .ok (.invokevirtual 86, 3) := by decide +kernel
theorem dX2_sum_60 : decode cX2_sum 60 = .ok (.pop, 1) := by decide +kernel
theorem dX2_sum_61 : decode cX2_sum 61 = .ok (.iinc 3 1, 3) := by decide +kernel
theorem dX2_sum_64 : decode cX2_sum 64 = .ok (.goto (-56), 3) := by decide +kernel
theorem dX2_sum_67 : decode cX2_sum 67 = .ok (.return_, 1) := by decide +kernel
theorem dX2_term_0 : decode cX2_term 0 = .ok (.aload_n 0, 1) := by decide +kernel
theorem dX2_term_1 : decode cX2_term 1 = .ok (.aload_n 1, 1) := by decide +kernel
theorem dX2_term_2 : decode cX2_term 2 = .ok (.iload_n 2, 1) := by decide +kernel
theorem dX2_term_3 : decode cX2_term 3 = .ok (.invokevirtual 100, 3) := by decide +kernel
theorem dX2_term_6 : decode cX2_term 6 = .ok (.iconst 0, 1) := by decide +kernel
theorem dX2_term_7 : decode cX2_term 7 = .ok (.istore_n 3, 1) := by decide +kernel
theorem dX2_term_8 : decode cX2_term 8 = .ok (.iload_n 3, 1) := by decide +kernel
theorem dX2_term_9 : decode cX2_term 9 = .ok (.sipush 240, 3) := by decide +kernel
theorem dX2_term_12 : decode cX2_term 12 = .ok (.if_icmp .ge 62, 3) := by decide +kernel
theorem dX2_term_15 : decode cX2_term 15 = .ok (.aload_n 1, 1) := by decide +kernel
theorem dX2_term_16 : decode cX2_term 16 = .ok (.invokevirtual 83, 3) := by decide +kernel
theorem dX2_term_19 : decode cX2_term 19 = .ok (.ifCond .eq 55, 3) := by decide +kernel
theorem dX2_term_22 : decode cX2_term 22 = .ok (.aload_n 1, 1) := by decide +kernel
theorem dX2_term_23 : decode cX2_term 23 = .ok (.invokevirtual 54, 3) := by decide +kernel
theorem dX2_term_26 : decode cX2_term 26 = .ok (.istore 4, 2) := by decide +kernel
theorem dX2_term_28 : decode cX2_term 28 = .ok (.iload 4, 2) := by decide +kernel
theorem dX2_term_30 : decode cX2_term 30 = .ok (.bipush 42, 2) := by decide +kernel
theorem dX2_term_32 : decode cX2_term 32 = .ok (.if_icmp .eq 18, 3) := by decide +kernel
theorem dX2_term_35 : decode cX2_term 35 = .ok (.iload 4, 2) := by decide +kernel
theorem dX2_term_37 : decode cX2_term 37 = .ok (.bipush 47, 2) := by decide +kernel
theorem dX2_term_39 : decode cX2_term 39 = .ok (.if_icmp .eq 11, 3) := by decide +kernel
theorem dX2_term_42 : decode cX2_term 42 = .ok (.iload 4, 2) := by decide +kernel
theorem dX2_term_44 : decode cX2_term 44 = .ok (.bipush 37, 2) := by decide +kernel
theorem dX2_term_46 : decode cX2_term 46 = .ok (.if_icmp .eq 4, 3) := by decide +kernel
theorem dX2_term_49 : decode cX2_term 49 = .ok (.return_, 1) := by decide +kernel
theorem dX2_term_50 : decode cX2_term 50 = .ok (.aload_n 1, 1) := by decide +kernel
theorem dX2_term_51 : decode cX2_term 51 = .ok (.invokevirtual 62, 3) := by decide +kernel
theorem dX2_term_54 : decode cX2_term 54 = .ok (.aload_n 0, 1) := by decide +kernel
theorem dX2_term_55 : decode cX2_term 55 = .ok (.aload_n 1, 1) := by decide +kernel
theorem dX2_term_56 : decode cX2_term 56 = .ok (.iload_n 2, 1) := by decide +kernel
theorem dX2_term_57 : decode cX2_term 57 = .ok (.invokevirtual 100, 3) := by decide +kernel
theorem dX2_term_60 : decode cX2_term 60 = .ok (.aload_n 0, 1) := by decide +kernel
theorem dX2_term_61 : decode cX2_term 61 = .ok (.iload 4, 2) := by decide +kernel
theorem dX2_term_63 : decode cX2_term 63 = .ok (.iconst 0, 1) := by decide +kernel
theorem dX2_term_64 : decode cX2_term 64 = .ok (.invokevirtual 86, 3) := by decide +kernel
theorem dX2_term_67 : decode cX2_term 67 = .ok (.pop, 1) := by decide +kernel
theorem dX2_term_68 : decode cX2_term 68 = .ok (.iinc 3 1, 3) := by decide +kernel
theorem dX2_term_71 : decode cX2_term 71 = .ok (.goto (-63), 3) := by decide +kernel
theorem dX2_term_74 : decode cX2_term 74 = .ok (.return_, 1) := by decide +kernel
theorem dX2_factor_0 : decode cX2_factor 0 = .ok (.aload_n 1, 1) := by decide +kernel
theorem dX2_factor_1 : decode cX2_factor 1 = .ok (.invokevirtual 54, 3) := by decide +kernel
theorem dX2_factor_4 : decode cX2_factor 4 = .ok (.istore_n 3, 1) := by decide +kernel
theorem dX2_factor_5 : decode cX2_factor 5 = .ok (.iload_n 3, 1) := by decide +kernel
theorem dX2_factor_6 : decode cX2_factor 6 = .ok (.bipush 91, 2) := by decide +kernel
theorem dX2_factor_8 : decode cX2_factor 8 = .ok (.if_icmp .ne 29, 3) := by decide +kernel
theorem dX2_factor_11 : decode cX2_factor 11 = .ok (.aload_n 1, 1) := by decide +kernel
theorem dX2_factor_12 : decode cX2_factor 12 = .ok (.iload_n 2, 1) := by decide +kernel
theorem dX2_factor_13 : decode cX2_factor 13 = .ok (.invokestatic 93, 3) := by decide +kernel
theorem dX2_factor_16 : decode cX2_factor 16 = .ok (.ifCond .eq 72, 3) := by decide +kernel
theorem dX2_factor_19 : decode cX2_factor 19 = .ok (.aload_n 0, 1) := by decide +kernel
theorem dX2_factor_20 : decode cX2_factor 20 = .ok (.aload_n 1, 1) := by decide +kernel
theorem dX2_factor_21 : decode cX2_factor 21 = .ok (.iload_n 2, 1) := by decide +kernel
theorem dX2_factor_22 : decode cX2_factor 22 = .ok (.iconst 1, 1) := by decide +kernel
theorem dX2_factor_23 : decode cX2_factor 23 = .ok (.iadd, 1) := by decide +kernel
theorem dX2_factor_24 : decode cX2_factor 24 = .ok (.invokevirtual 69, 3) := by decide +kernel
theorem dX2_factor_27 : decode cX2_factor 27 = .ok (.aload_n 1, 1) := by decide +kernel
theorem dX2_factor_28 : decode cX2_factor 28 = .ok (.bipush 93, 2) := by decide +kernel
theorem dX2_factor_30 : decode cX2_factor 30 = .ok (.invokevirtual 73, 3) := by decide +kernel
theorem dX2_factor_33 : decode cX2_factor 33 = .ok (.pop, 1) := by decide +kernel
theorem dX2_factor_34 : decode cX2_factor 34 = .ok (.goto 54, 3) := by decide +kernel
theorem dX2_factor_37 : decode cX2_factor 37 = .ok (.iload_n 3, 1) := by decide +kernel
theorem dX2_factor_38 : decode cX2_factor 38 = .ok (.invokestatic 103, 3) := by decide +kernel
theorem dX2_factor_41 : decode cX2_factor 41 = .ok (.ifCond .eq 17, 3) := by decide +kernel
theorem dX2_factor_44 : decode cX2_factor 44 = .ok (.aload_n 0, 1) := by decide +kernel
theorem dX2_factor_45 : decode cX2_factor 45 = .ok (.iconst 1, 1) := by decide +kernel
theorem dX2_factor_46 : decode cX2_factor 46 = .ok (.aload_n 1, 1) := by decide +kernel
theorem dX2_factor_47 : decode cX2_factor 47 = .ok (.iconst 5, 1) := by decide +kernel
theorem dX2_factor_48 : decode cX2_factor 48 = .ok (.invokevirtual 106, 3) := by decide +kernel
theorem dX2_factor_51 : decode cX2_factor 51 = .ok (.invokevirtual 86, 3) := by decide +kernel
theorem dX2_factor_54 : decode cX2_factor 54 = .ok (.pop, 1) := by decide +kernel
theorem dX2_factor_55 : decode cX2_factor 55 = .ok (.goto 33, 3) := by decide +kernel
theorem dX2_factor_58 : decode cX2_factor 58 = .ok (.iload_n 3, 1) := by decide +kernel
theorem dX2_factor_59 : decode cX2_factor 59 = .ok (.invokestatic 110, 3) := by decide +kernel
theorem dX2_factor_62 : decode cX2_factor 62 = .ok (.iconst (-1), 1) := by decide +kernel
theorem dX2_factor_63 : decode cX2_factor 63 = .ok (.if_icmp .eq 20, 3) := by decide +kernel
theorem dX2_factor_66 : decode cX2_factor 66 = .ok (.aload_n 0, 1) := by decide +kernel
theorem dX2_factor_67 : decode cX2_factor 67 = .ok (.iconst 2, 1) := by decide +kernel
theorem dX2_factor_68 : decode cX2_factor 68 = .ok (.iload_n 3, 1) := by decide +kernel
theorem dX2_factor_69 : decode cX2_factor 69 = .ok (.invokestatic 110, 3) := by decide +kernel
theorem dX2_factor_72 : decode cX2_factor 72 = .ok (.invokevirtual 86, 3) := by decide +kernel
theorem dX2_factor_75 : decode cX2_factor 75 = .ok (.pop, 1) := by decide +kernel
theorem dX2_factor_76 : decode cX2_factor 76 = .ok (.aload_n 1, 1) := by decide +kernel
theorem dX2_factor_77 : decode cX2_factor 77 = .ok (.invokevirtual 62, 3) := by decide +kernel
theorem dX2_factor_80 : decode cX2_factor 80 = .ok (.goto 8, 3) := by decide +kernel
theorem dX2_factor_83 : decode cX2_factor 83 = .ok (.aload_n 1, 1) := by decide +kernel
theorem dX2_factor_84 : decode cX2_factor 84 = .ok (.iconst 1, 1) := by decide +kernel
theorem dX2_factor_85 : decode cX2_factor 85 = .ok (.invokevirtual 58, 3) := by decide +kernel
theorem dX2_factor_88 : decode cX2_factor 88 = .ok (.return_, 1) := by decide +kernel
theorem dX2_letterOf_0 : decode cX2_letterOf 0 = .ok (.iload_n 0, 1) := by decide +kernel
theorem dX2_letterOf_1 : decode cX2_letterOf 1 = .ok (.tableswitch 105 99 116 #[93, 102, 105, 105, 91, 99, 105, 105, 105, 97, 105, 95, 105, 87, 105, 105, 105, 89], 87) := by decide +kernel
theorem dX2_letterOf_88 : decode cX2_letterOf 88 = .ok (.iconst 0, 1) := by decide +kernel
theorem dX2_letterOf_89 : decode cX2_letterOf 89 = .ok (.ireturn, 1) := by decide +kernel
theorem dX2_letterOf_90 : decode cX2_letterOf 90 = .ok (.iconst 1, 1) := by decide +kernel
theorem dX2_letterOf_91 : decode cX2_letterOf 91 = .ok (.ireturn, 1) := by decide +kernel
theorem dX2_letterOf_92 : decode cX2_letterOf 92 = .ok (.iconst 2, 1) := by decide +kernel
theorem dX2_letterOf_93 : decode cX2_letterOf 93 = .ok (.ireturn, 1) := by decide +kernel
theorem dX2_letterOf_94 : decode cX2_letterOf 94 = .ok (.iconst 3, 1) := by decide +kernel
theorem dX2_letterOf_95 : decode cX2_letterOf 95 = .ok (.ireturn, 1) := by decide +kernel
theorem dX2_letterOf_96 : decode cX2_letterOf 96 = .ok (.iconst 4, 1) := by decide +kernel
theorem dX2_letterOf_97 : decode cX2_letterOf 97 = .ok (.ireturn, 1) := by decide +kernel
theorem dX2_letterOf_98 : decode cX2_letterOf 98 = .ok (.iconst 5, 1) := by decide +kernel
theorem dX2_letterOf_99 : decode cX2_letterOf 99 = .ok (.ireturn, 1) := by decide +kernel
theorem dX2_letterOf_100 : decode cX2_letterOf 100 = .ok (.bipush 6, 2) := by decide +kernel
theorem dX2_letterOf_102 : decode cX2_letterOf 102 = .ok (.ireturn, 1) := by decide +kernel
theorem dX2_letterOf_103 : decode cX2_letterOf 103 = .ok (.bipush 7, 2) := by decide +kernel
theorem dX2_letterOf_105 : decode cX2_letterOf 105 = .ok (.ireturn, 1) := by decide +kernel
theorem dX2_letterOf_106 : decode cX2_letterOf 106 = .ok (.iconst (-1), 1) := by decide +kernel
theorem dX2_letterOf_107 : decode cX2_letterOf 107 = .ok (.ireturn, 1) := by decide +kernel
theorem dX2_order_0 : decode cX2_order 0 = .ok (.aload_n 0, 1) := by decide +kernel
theorem dX2_order_1 : decode cX2_order 1 = .ok (.getfield 11, 3) := by decide +kernel
theorem dX2_order_4 : decode cX2_order 4 = .ok (.aload_n 0, 1) := by decide +kernel
theorem dX2_order_5 : decode cX2_order 5 = .ok (.getfield 33, 3) := by decide +kernel
theorem dX2_order_8 : decode cX2_order 8 = .ok (.iload_n 1, 1) := by decide +kernel
theorem dX2_order_9 : decode cX2_order 9 = .ok (.invokestatic 65, 3) := by decide +kernel
theorem dX2_order_12 : decode cX2_order 12 = .ok (.aload_n 0, 1) := by decide +kernel
theorem dX2_order_13 : decode cX2_order 13 = .ok (.getfield 15, 3) := by decide +kernel
theorem dX2_order_16 : decode cX2_order 16 = .ok (.aload_n 0, 1) := by decide +kernel
theorem dX2_order_17 : decode cX2_order 17 = .ok (.getfield 33, 3) := by decide +kernel
theorem dX2_order_20 : decode cX2_order 20 = .ok (.iload_n 2, 1) := by decide +kernel
theorem dX2_order_21 : decode cX2_order 21 = .ok (.invokestatic 65, 3) := by decide +kernel
theorem dX2_order_24 : decode cX2_order 24 = .ok (.aload_n 0, 1) := by decide +kernel
theorem dX2_order_25 : decode cX2_order 25 = .ok (.dup, 1) := by decide +kernel
theorem dX2_order_26 : decode cX2_order 26 = .ok (.getfield 33, 3) := by decide +kernel
theorem dX2_order_29 : decode cX2_order 29 = .ok (.iconst 1, 1) := by decide +kernel
theorem dX2_order_30 : decode cX2_order 30 = .ok (.iadd, 1) := by decide +kernel
theorem dX2_order_31 : decode cX2_order 31 = .ok (.putfield 33, 3) := by decide +kernel
theorem dX2_order_34 : decode cX2_order 34 = .ok (.aload_n 0, 1) := by decide +kernel
theorem dX2_order_35 : decode cX2_order 35 = .ok (.getfield 33, 3) := by decide +kernel
theorem dX2_order_38 : decode cX2_order 38 = .ok (.iconst 1, 1) := by decide +kernel
theorem dX2_order_39 : decode cX2_order 39 = .ok (.isub, 1) := by decide +kernel
theorem dX2_order_40 : decode cX2_order 40 = .ok (.ireturn, 1) := by decide +kernel
theorem dX2_isSafe_0 : decode cX2_isSafe 0 = .ok (.iconst 0, 1) := by decide +kernel
theorem dX2_isSafe_1 : decode cX2_isSafe 1 = .ok (.istore_n 2, 1) := by decide +kernel
theorem dX2_isSafe_2 : decode cX2_isSafe 2 = .ok (.iload_n 2, 1) := by decide +kernel
theorem dX2_isSafe_3 : decode cX2_isSafe 3 = .ok (.aload_n 0, 1) := by decide +kernel
theorem dX2_isSafe_4 : decode cX2_isSafe 4 = .ok (.getfield 41, 3) := by decide +kernel
theorem dX2_isSafe_7 : decode cX2_isSafe 7 = .ok (.if_icmp .ge 48, 3) := by decide +kernel
theorem dX2_isSafe_10 : decode cX2_isSafe 10 = .ok (.aload_n 0, 1) := by decide +kernel
theorem dX2_isSafe_11 : decode cX2_isSafe 11 = .ok (.getfield 18, 3) := by decide +kernel
theorem dX2_isSafe_14 : decode cX2_isSafe 14 = .ok (.iload_n 2, 1) := by decide +kernel
theorem dX2_isSafe_15 : decode cX2_isSafe 15 = .ok (.invokestatic 113, 3) := by decide +kernel
theorem dX2_isSafe_18 : decode cX2_isSafe 18 = .ok (.bipush 115, 2) := by decide +kernel
theorem dX2_isSafe_20 : decode cX2_isSafe 20 = .ok (.if_icmp .ne 29, 3) := by decide +kernel
theorem dX2_isSafe_23 : decode cX2_isSafe 23 = .ok (.aload_n 0, 1) := by decide +kernel
theorem dX2_isSafe_24 : decode cX2_isSafe 24 = .ok (.aload_n 0, 1) := by decide +kernel
theorem dX2_isSafe_25 : decode cX2_isSafe 25 = .ok (.getfield 24, 3) := by decide +kernel
theorem dX2_isSafe_28 : decode cX2_isSafe 28 = .ok (.iload_n 2, 1) := by decide +kernel
theorem dX2_isSafe_29 : decode cX2_isSafe 29 = .ok (.invokestatic 113, 3) := by decide +kernel
theorem dX2_isSafe_32 : decode cX2_isSafe 32 = .ok (.aload_n 0, 1) := by decide +kernel
theorem dX2_isSafe_33 : decode cX2_isSafe 33 = .ok (.getfield 27, 3) := by decide +kernel
theorem dX2_isSafe_36 : decode cX2_isSafe 36 = .ok (.iload_n 2, 1) := by decide +kernel
theorem dX2_isSafe_37 : decode cX2_isSafe 37 = .ok (.invokestatic 113, 3) := by decide +kernel
theorem dX2_isSafe_40 : decode cX2_isSafe 40 = .ok (.aload_n 1, 1) := by decide +kernel
theorem dX2_isSafe_41 : decode cX2_isSafe 41 = .ok (.invokevirtual 117, 3) := by decide +kernel
theorem dX2_isSafe_44 : decode cX2_isSafe 44 = .ok (.ifCond .eq 5, 3) := by decide +kernel
theorem dX2_isSafe_47 : decode cX2_isSafe 47 = .ok (.iconst 1, 1) := by decide +kernel
theorem dX2_isSafe_48 : decode cX2_isSafe 48 = .ok (.ireturn, 1) := by decide +kernel
theorem dX2_isSafe_49 : decode cX2_isSafe 49 = .ok (.iinc 2 1, 3) := by decide +kernel
theorem dX2_isSafe_52 : decode cX2_isSafe 52 = .ok (.goto (-50), 3) := by decide +kernel
theorem dX2_isSafe_55 : decode cX2_isSafe 55 = .ok (.iconst 0, 1) := by decide +kernel
theorem dX2_isSafe_56 : decode cX2_isSafe 56 = .ok (.ireturn, 1) := by decide +kernel
theorem dX2_rate_0 : decode cX2_rate 0 = .ok (.iconst 0, 1) := by decide +kernel
theorem dX2_rate_1 : decode cX2_rate 1 = .ok (.istore 4, 2) := by decide +kernel
theorem dX2_rate_3 : decode cX2_rate 3 = .ok (.iload 4, 2) := by decide +kernel
theorem dX2_rate_5 : decode cX2_rate 5 = .ok (.aload_n 0, 1) := by decide +kernel
theorem dX2_rate_6 : decode cX2_rate 6 = .ok (.getfield 41, 3) := by decide +kernel
theorem dX2_rate_9 : decode cX2_rate 9 = .ok (.if_icmp .ge 77, 3) := by decide +kernel
theorem dX2_rate_12 : decode cX2_rate 12 = .ok (.aload_n 0, 1) := by decide +kernel
theorem dX2_rate_13 : decode cX2_rate 13 = .ok (.getfield 18, 3) := by decide +kernel
theorem dX2_rate_16 : decode cX2_rate 16 = .ok (.iload 4, 2) := by decide +kernel
theorem dX2_rate_18 : decode cX2_rate 18 = .ok (.invokestatic 113, 3) := by decide +kernel
theorem dX2_rate_21 : decode cX2_rate 21 = .ok (.iload_n 1, 1) := by decide +kernel
theorem dX2_rate_22 : decode cX2_rate 22 = .ok (.if_icmp .ne 58, 3) := by decide +kernel
theorem dX2_rate_25 : decode cX2_rate 25 = .ok (.aload_n 0, 1) := by decide +kernel
theorem dX2_rate_26 : decode cX2_rate 26 = .ok (.aload_n 0, 1) := by decide +kernel
theorem dX2_rate_27 : decode cX2_rate 27 = .ok (.getfield 24, 3) := by decide +kernel
theorem dX2_rate_30 : decode cX2_rate 30 = .ok (.iload 4, 2) := by decide +kernel
theorem dX2_rate_32 : decode cX2_rate 32 = .ok (.invokestatic 113, 3) := by decide +kernel
theorem dX2_rate_35 : decode cX2_rate 35 = .ok (.aload_n 0, 1) := by decide +kernel
theorem dX2_rate_36 : decode cX2_rate 36 = .ok (.getfield 27, 3) := by decide +kernel
theorem dX2_rate_39 : decode cX2_rate 39 = .ok (.iload 4, 2) := by decide +kernel
theorem dX2_rate_41 : decode cX2_rate 41 = .ok (.invokestatic 113, 3) := by decide +kernel
theorem dX2_rate_44 : decode cX2_rate 44 = .ok (.aload_n 3, 1) := by decide +kernel
theorem dX2_rate_45 : decode cX2_rate 45 = .ok (.invokevirtual 117, 3) := by decide +kernel
theorem dX2_rate_48 : decode cX2_rate 48 = .ok (.ifCond .eq 32, 3) := by decide +kernel
theorem dX2_rate_51 : decode cX2_rate 51 = .ok (.aload_n 0, 1) := by decide +kernel
theorem dX2_rate_52 : decode cX2_rate 52 = .ok (.aload_n 0, 1) := by decide +kernel
theorem dX2_rate_53 : decode cX2_rate 53 = .ok (.getfield 21, 3) := by decide +kernel
theorem dX2_rate_56 : decode cX2_rate 56 = .ok (.iload 4, 2) := by decide +kernel
theorem dX2_rate_58 : decode cX2_rate 58 = .ok (.invokestatic 113, 3) := by decide +kernel
theorem dX2_rate_61 : decode cX2_rate 61 = .ok (.aload_n 0, 1) := by decide +kernel
theorem dX2_rate_62 : decode cX2_rate 62 = .ok (.getfield 24, 3) := by decide +kernel
theorem dX2_rate_65 : decode cX2_rate 65 = .ok (.iload 4, 2) := by decide +kernel
theorem dX2_rate_67 : decode cX2_rate 67 = .ok (.invokestatic 113, 3) := by decide +kernel
theorem dX2_rate_70 : decode cX2_rate 70 = .ok (.aload_n 3, 1) := by decide +kernel
theorem dX2_rate_71 : decode cX2_rate 71 = .ok (.invokevirtual 117, 3) := by decide +kernel
theorem dX2_rate_74 : decode cX2_rate 74 = .ok (.iconst 0, 1) := by decide +kernel
theorem dX2_rate_75 : decode cX2_rate 75 = .ok (.iload_n 2, 1) := by decide +kernel
theorem dX2_rate_76 : decode cX2_rate 76 = .ok (.invokestatic 121, 3) := by decide +kernel
theorem dX2_rate_79 : decode cX2_rate 79 = .ok (.ireturn, 1) := by decide +kernel
theorem dX2_rate_80 : decode cX2_rate 80 = .ok (.iinc 4 1, 3) := by decide +kernel
theorem dX2_rate_83 : decode cX2_rate 83 = .ok (.goto (-80), 3) := by decide +kernel
theorem dX2_rate_86 : decode cX2_rate 86 = .ok (.iconst 0, 1) := by decide +kernel
theorem dX2_rate_87 : decode cX2_rate 87 = .ok (.ireturn, 1) := by decide +kernel
theorem dX2_reckoned_0 : decode cX2_reckoned 0 = .ok (.iconst 0, 1) := by decide +kernel
theorem dX2_reckoned_1 : decode cX2_reckoned 1 = .ok (.istore 4, 2) := by decide +kernel
theorem dX2_reckoned_3 : decode cX2_reckoned 3 = .ok (.iload_n 1, 1) := by decide +kernel
theorem dX2_reckoned_4 : decode cX2_reckoned 4 = .ok (.istore 5, 2) := by decide +kernel
theorem dX2_reckoned_6 : decode cX2_reckoned 6 = .ok (.aload_n 0, 1) := by decide +kernel
theorem dX2_reckoned_7 : decode cX2_reckoned 7 = .ok (.iconst 0, 1) := by decide +kernel
theorem dX2_reckoned_8 : decode cX2_reckoned 8 = .ok (.putfield 37, 3) := by decide +kernel
theorem dX2_reckoned_11 : decode cX2_reckoned 11 = .ok (.iconst 0, 1) := by decide +kernel
theorem dX2_reckoned_12 : decode cX2_reckoned 12 = .ok (.istore 6, 2) := by decide +kernel
theorem dX2_reckoned_14 : decode cX2_reckoned 14 = .ok (.iload 6, 2) := by decide +kernel
theorem dX2_reckoned_16 : decode cX2_reckoned 16 = .ok (.sipush 240, 3) := by decide +kernel
theorem dX2_reckoned_19 : decode cX2_reckoned 19 = .ok (.if_icmp .ge 242, 3) := by decide +kernel
theorem dX2_reckoned_22 : decode cX2_reckoned 22 = .ok (.iload 5, 2) := by decide +kernel
theorem dX2_reckoned_24 : decode cX2_reckoned 24 = .ok (.iload_n 2, 1) := by decide +kernel
theorem dX2_reckoned_25 : decode cX2_reckoned 25 = .ok (.if_icmp .ge 236, 3) := by decide +kernel
theorem dX2_reckoned_28 : decode cX2_reckoned 28 = .ok (.aload_n 0, 1) := by decide +kernel
theorem dX2_reckoned_29 : decode cX2_reckoned 29 = .ok (.getfield 37, 3) := by decide +kernel
theorem dX2_reckoned_32 : decode cX2_reckoned 32 = .ok (.ifCond .ne 229, 3) := by decide +kernel
theorem dX2_reckoned_35 : decode cX2_reckoned 35 = .ok (.aload_n 0, 1) := by decide +kernel
theorem dX2_reckoned_36 : decode cX2_reckoned 36 = .ok (.getfield 11, 3) := by decide +kernel
theorem dX2_reckoned_39 : decode cX2_reckoned 39 = .ok (.iload 5, 2) := by decide +kernel
theorem dX2_reckoned_41 : decode cX2_reckoned 41 = .ok (.invokestatic 113, 3) := by decide +kernel
theorem dX2_reckoned_44 : decode cX2_reckoned 44 = .ok (.istore 7, 2) := by decide +kernel
theorem dX2_reckoned_46 : decode cX2_reckoned 46 = .ok (.aload_n 0, 1) := by decide +kernel
theorem dX2_reckoned_47 : decode cX2_reckoned 47 = .ok (.getfield 15, 3) := by decide +kernel
theorem dX2_reckoned_50 : decode cX2_reckoned 50 = .ok (.iload 5, 2) := by decide +kernel
theorem dX2_reckoned_52 : decode cX2_reckoned 52 = .ok (.invokestatic 113, 3) := by decide +kernel
theorem dX2_reckoned_55 : decode cX2_reckoned 55 = .ok (.istore 8, 2) := by decide +kernel
theorem dX2_reckoned_57 : decode cX2_reckoned 57 = .ok (.aload_n 0, 1) := by decide +kernel
theorem dX2_reckoned_58 : decode cX2_reckoned 58 = .ok (.getfield 30, 3) := by decide +kernel
theorem dX2_reckoned_61 : decode cX2_reckoned 61 = .ok (.iload 4, 2) := by decide +kernel
theorem dX2_reckoned_63 : decode cX2_reckoned 63 = .ok (.iconst 1, 1) := by decide +kernel
theorem dX2_reckoned_64 : decode cX2_reckoned 64 = .ok (.isub, 1) := by decide +kernel
theorem dX2_reckoned_65 : decode cX2_reckoned 65 = .ok (.invokestatic 113, 3) := by decide +kernel
theorem dX2_reckoned_68 : decode cX2_reckoned 68 = .ok (.istore 9, 2) := by decide +kernel
theorem dX2_reckoned_70 : decode cX2_reckoned 70 = .ok (.iinc 5 1, 3) := by decide +kernel
theorem dX2_reckoned_73 : decode cX2_reckoned 73 = .ok (.iload 7, 2) := by decide +kernel
theorem dX2_reckoned_75 : decode cX2_reckoned 75 = .ok (.iconst 1, 1) := by decide +kernel
theorem dX2_reckoned_76 : decode cX2_reckoned 76 = .ok (.if_icmp .eq 9, 3) := by decide +kernel
theorem dX2_reckoned_79 : decode cX2_reckoned 79 = .ok (.iload 7, 2) := by decide +kernel
theorem dX2_reckoned_81 : decode cX2_reckoned 81 = .ok (.iconst 2, 1) := by decide +kernel
theorem dX2_reckoned_82 : decode cX2_reckoned 82 = .ok (.if_icmp .ne 35, 3) := by decide +kernel
theorem dX2_reckoned_85 : decode cX2_reckoned 85 = .ok (.aload_n 0, 1) := by decide +kernel
theorem dX2_reckoned_86 : decode cX2_reckoned 86 = .ok (.getfield 30, 3) := by decide +kernel
theorem dX2_reckoned_89 : decode cX2_reckoned 89 = .ok (.iload 4, 2) := by decide +kernel
theorem dX2_reckoned_91 : decode cX2_reckoned 91 = .ok (.iload 7, 2) := by decide +kernel
theorem dX2_reckoned_93 : decode cX2_reckoned 93 = .ok (.iconst 1, 1) := by decide +kernel
theorem dX2_reckoned_94 : decode cX2_reckoned 94 = .ok (.if_icmp .ne 8, 3) := by decide +kernel
theorem dX2_reckoned_97 : decode cX2_reckoned 97 = .ok (.iload 8, 2) := by decide +kernel
theorem dX2_reckoned_99 : decode cX2_reckoned 99 = .ok (.goto 9, 3) := by decide +kernel
theorem dX2_reckoned_102 : decode cX2_reckoned 102 = .ok (.aload_n 3, 1) := by decide +kernel
theorem dX2_reckoned_103 : decode cX2_reckoned 103 = .ok (.iload 8, 2) := by decide +kernel
theorem dX2_reckoned_105 : decode cX2_reckoned 105 = .ok (.invokestatic 113, 3) := by decide +kernel
theorem dX2_reckoned_108 : decode cX2_reckoned 108 = .ok (.invokestatic 65, 3) := by decide +kernel
theorem dX2_reckoned_111 : decode cX2_reckoned 111 = .ok (.iinc 4 1, 3) := by decide +kernel
theorem dX2_reckoned_114 : decode cX2_reckoned 114 = .ok (.goto 141, 3) := by decide +kernel
theorem dX2_reckoned_117 : decode cX2_reckoned 117 = .ok (.iload 7, 2) := by decide +kernel
theorem dX2_reckoned_119 : decode cX2_reckoned 119 = .ok (.iconst 3, 1) := by decide +kernel
theorem dX2_reckoned_120 : decode cX2_reckoned 120 = .ok (.if_icmp .ne 27, 3) := by decide +kernel
theorem dX2_reckoned_123 : decode cX2_reckoned 123 = .ok (.aload_n 0, 1) := by decide +kernel
theorem dX2_reckoned_124 : decode cX2_reckoned 124 = .ok (.getfield 30, 3) := by decide +kernel
theorem dX2_reckoned_127 : decode cX2_reckoned 127 = .ok (.iload 4, 2) := by decide +kernel
theorem dX2_reckoned_129 : decode cX2_reckoned 129 = .ok (.iconst 1, 1) := by decide +kernel
theorem dX2_reckoned_130 : decode cX2_reckoned 130 = .ok (.isub, 1) := by decide +kernel
theorem dX2_reckoned_131 : decode cX2_reckoned 131 = .ok (.iload 9, 2) := by decide +kernel
theorem dX2_reckoned_133 : decode cX2_reckoned 133 = .ok (.ifCond .ne 7, 3) := by decide +kernel
theorem dX2_reckoned_136 : decode cX2_reckoned 136 = .ok (.iconst 1, 1) := by decide +kernel
theorem dX2_reckoned_137 : decode cX2_reckoned 137 = .ok (.goto 4, 3) := by decide +kernel
theorem dX2_reckoned_140 : decode cX2_reckoned 140 = .ok (.iconst 0, 1) := by decide +kernel
theorem dX2_reckoned_141 : decode cX2_reckoned 141 = .ok (.invokestatic 65, 3) := by decide +kernel
theorem dX2_reckoned_144 : decode cX2_reckoned 144 = .ok (.goto 111, 3) := by decide +kernel
theorem dX2_reckoned_147 : decode cX2_reckoned 147 = .ok (.iload 7, 2) := by decide +kernel
theorem dX2_reckoned_149 : decode cX2_reckoned 149 = .ok (.iconst 4, 1) := by decide +kernel
theorem dX2_reckoned_150 : decode cX2_reckoned 150 = .ok (.if_icmp .eq 9, 3) := by decide +kernel
theorem dX2_reckoned_153 : decode cX2_reckoned 153 = .ok (.iload 7, 2) := by decide +kernel
theorem dX2_reckoned_155 : decode cX2_reckoned 155 = .ok (.iconst 5, 1) := by decide +kernel
theorem dX2_reckoned_156 : decode cX2_reckoned 156 = .ok (.if_icmp .ne 66, 3) := by decide +kernel
theorem dX2_reckoned_159 : decode cX2_reckoned 159 = .ok (.iload 7, 2) := by decide +kernel
theorem dX2_reckoned_161 : decode cX2_reckoned 161 = .ok (.iconst 4, 1) := by decide +kernel
theorem dX2_reckoned_162 : decode cX2_reckoned 162 = .ok (.if_icmp .ne 7, 3) := by decide +kernel
theorem dX2_reckoned_165 : decode cX2_reckoned 165 = .ok (.iconst 1, 1) := by decide +kernel
theorem dX2_reckoned_166 : decode cX2_reckoned 166 = .ok (.goto 4, 3) := by decide +kernel
theorem dX2_reckoned_169 : decode cX2_reckoned 169 = .ok (.iconst 0, 1) := by decide +kernel
theorem dX2_reckoned_170 : decode cX2_reckoned 170 = .ok (.iload 9, 2) := by decide +kernel
theorem dX2_reckoned_172 : decode cX2_reckoned 172 = .ok (.ifCond .eq 7, 3) := by decide +kernel
theorem dX2_reckoned_175 : decode cX2_reckoned 175 = .ok (.iconst 1, 1) := by decide +kernel
theorem dX2_reckoned_176 : decode cX2_reckoned 176 = .ok (.goto 4, 3) := by decide +kernel
theorem dX2_reckoned_179 : decode cX2_reckoned 179 = .ok (.iconst 0, 1) := by decide +kernel
theorem dX2_reckoned_180 : decode cX2_reckoned 180 = .ok (.if_icmp .ne 7, 3) := by decide +kernel
theorem dX2_reckoned_183 : decode cX2_reckoned 183 = .ok (.iconst 1, 1) := by decide +kernel
theorem dX2_reckoned_184 : decode cX2_reckoned 184 = .ok (.goto 4, 3) := by decide +kernel
theorem dX2_reckoned_187 : decode cX2_reckoned 187 = .ok (.iconst 0, 1) := by decide +kernel
theorem dX2_reckoned_188 : decode cX2_reckoned 188 = .ok (.istore 10, 2) := by decide +kernel
theorem dX2_reckoned_190 : decode cX2_reckoned 190 = .ok (.iload 4, 2) := by decide +kernel
theorem dX2_reckoned_192 : decode cX2_reckoned 192 = .ok (.iload 10, 2) := by decide +kernel
theorem dX2_reckoned_194 : decode cX2_reckoned 194 = .ok (.ifCond .eq 7, 3) := by decide +kernel
theorem dX2_reckoned_197 : decode cX2_reckoned 197 = .ok (.iconst 1, 1) := by decide +kernel
theorem dX2_reckoned_198 : decode cX2_reckoned 198 = .ok (.goto 4, 3) := by decide +kernel
theorem dX2_reckoned_201 : decode cX2_reckoned 201 = .ok (.iconst 0, 1) := by decide +kernel
theorem dX2_reckoned_202 : decode cX2_reckoned 202 = .ok (.isub, 1) := by decide +kernel
theorem dX2_reckoned_203 : decode cX2_reckoned 203 = .ok (.istore 4, 2) := by decide +kernel
theorem dX2_reckoned_205 : decode cX2_reckoned 205 = .ok (.iload 10, 2) := by decide +kernel
theorem dX2_reckoned_207 : decode cX2_reckoned 207 = .ok (.ifCond .eq 8, 3) := by decide +kernel
theorem dX2_reckoned_210 : decode cX2_reckoned 210 = .ok (.iload 5, 2) := by decide +kernel
theorem dX2_reckoned_212 : decode cX2_reckoned 212 = .ok (.goto 5, 3) := by decide +kernel
theorem dX2_reckoned_215 : decode cX2_reckoned 215 = .ok (.iload 8, 2) := by decide +kernel
theorem dX2_reckoned_217 : decode cX2_reckoned 217 = .ok (.istore 5, 2) := by decide +kernel
theorem dX2_reckoned_219 : decode cX2_reckoned 219 = .ok (.goto 36, 3) := by decide +kernel
theorem dX2_reckoned_222 : decode cX2_reckoned 222 = .ok (.iinc 4 (-1), 3) := by decide +kernel
theorem dX2_reckoned_225 : decode cX2_reckoned 225 = .ok (.aload_n 0, 1) := by decide +kernel
theorem dX2_reckoned_226 : decode cX2_reckoned 226 = .ok (.getfield 30, 3) := by decide +kernel
theorem dX2_reckoned_229 : decode cX2_reckoned 229 = .ok (.iload 4, 2) := by decide +kernel
theorem dX2_reckoned_231 : decode cX2_reckoned 231 = .ok (.iconst 1, 1) := by decide +kernel
theorem dX2_reckoned_232 : decode cX2_reckoned 232 = .ok (.isub, 1) := by decide +kernel
theorem dX2_reckoned_233 : decode cX2_reckoned 233 = .ok (.aload_n 0, 1) := by decide +kernel
theorem dX2_reckoned_234 : decode cX2_reckoned 234 = .ok (.iload 7, 2) := by decide +kernel
theorem dX2_reckoned_236 : decode cX2_reckoned 236 = .ok (.aload_n 0, 1) := by decide +kernel
theorem dX2_reckoned_237 : decode cX2_reckoned 237 = .ok (.getfield 30, 3) := by decide +kernel
theorem dX2_reckoned_240 : decode cX2_reckoned 240 = .ok (.iload 4, 2) := by decide +kernel
theorem dX2_reckoned_242 : decode cX2_reckoned 242 = .ok (.iconst 1, 1) := by decide +kernel
theorem dX2_reckoned_243 : decode cX2_reckoned 243 = .ok (.isub, 1) := by decide +kernel
theorem dX2_reckoned_244 : decode cX2_reckoned 244 = .ok (.invokestatic 113, 3) := by decide +kernel
theorem dX2_reckoned_247 : decode cX2_reckoned 247 = .ok (.iload 9, 2) := by decide +kernel
theorem dX2_reckoned_249 : decode cX2_reckoned 249 = .ok (.invokevirtual 125, 3) := by decide +kernel
theorem dX2_reckoned_252 : decode cX2_reckoned 252 = .ok (.invokestatic 65, 3) := by decide +kernel
theorem dX2_reckoned_255 : decode cX2_reckoned 255 = .ok (.iinc 6 1, 3) := by decide +kernel
theorem dX2_reckoned_258 : decode cX2_reckoned 258 = .ok (.goto (-244), 3) := by decide +kernel
theorem dX2_reckoned_261 : decode cX2_reckoned 261 = .ok (.aload_n 0, 1) := by decide +kernel
theorem dX2_reckoned_262 : decode cX2_reckoned 262 = .ok (.getfield 37, 3) := by decide +kernel
theorem dX2_reckoned_265 : decode cX2_reckoned 265 = .ok (.ifCond .eq 7, 3) := by decide +kernel
theorem dX2_reckoned_268 : decode cX2_reckoned 268 = .ok (.iconst 0, 1) := by decide +kernel
theorem dX2_reckoned_269 : decode cX2_reckoned 269 = .ok (.goto 14, 3) := by decide +kernel
theorem dX2_reckoned_272 : decode cX2_reckoned 272 = .ok (.aload_n 0, 1) := by decide +kernel
theorem dX2_reckoned_273 : decode cX2_reckoned 273 = .ok (.getfield 30, 3) := by decide +kernel
theorem dX2_reckoned_276 : decode cX2_reckoned 276 = .ok (.iload 4, 2) := by decide +kernel
theorem dX2_reckoned_278 : decode cX2_reckoned 278 = .ok (.iconst 1, 1) := by decide +kernel
theorem dX2_reckoned_279 : decode cX2_reckoned 279 = .ok (.isub, 1) := by decide +kernel
theorem dX2_reckoned_280 : decode cX2_reckoned 280 = .ok (.invokestatic 113, 3) := by decide +kernel
theorem dX2_reckoned_283 : decode cX2_reckoned 283 = .ok (.ireturn, 1) := by decide +kernel
theorem dX2_joined_0 : decode cX2_joined 0 = .ok (.iload_n 3, 1) := by decide +kernel
theorem dX2_joined_1 : decode cX2_joined 1 = .ok (.ifCond .ne 22, 3) := by decide +kernel
theorem dX2_joined_4 : decode cX2_joined 4 = .ok (.iload_n 1, 1) := by decide +kernel
theorem dX2_joined_5 : decode cX2_joined 5 = .ok (.bipush 47, 2) := by decide +kernel
theorem dX2_joined_7 : decode cX2_joined 7 = .ok (.if_icmp .eq 9, 3) := by decide +kernel
theorem dX2_joined_10 : decode cX2_joined 10 = .ok (.iload_n 1, 1) := by decide +kernel
theorem dX2_joined_11 : decode cX2_joined 11 = .ok (.bipush 37, 2) := by decide +kernel
theorem dX2_joined_13 : decode cX2_joined 13 = .ok (.if_icmp .ne 10, 3) := by decide +kernel
theorem dX2_joined_16 : decode cX2_joined 16 = .ok (.aload_n 0, 1) := by decide +kernel
theorem dX2_joined_17 : decode cX2_joined 17 = .ok (.iconst 1, 1) := by decide +kernel
theorem dX2_joined_18 : decode cX2_joined 18 = .ok (.putfield 37, 3) := by decide +kernel
theorem dX2_joined_21 : decode cX2_joined 21 = .ok (.iconst 0, 1) := by decide +kernel
theorem dX2_joined_22 : decode cX2_joined 22 = .ok (.ireturn, 1) := by decide +kernel
theorem dX2_joined_23 : decode cX2_joined 23 = .ok (.iload_n 1, 1) := by decide +kernel
theorem dX2_joined_24 : decode cX2_joined 24 = .ok (.tableswitch 189 37 62 #[177, 189, 189, 189, 189, 161, 153, 189, 157, 189, 165, 189, 189, 189, 189, 189, 189, 189, 189, 189, 189, 189, 189, 120, 142, 131], 120) := by decide +kernel
theorem dX2_joined_144 : decode cX2_joined 144 = .ok (.iload_n 2, 1) := by decide +kernel
theorem dX2_joined_145 : decode cX2_joined 145 = .ok (.iload_n 3, 1) := by decide +kernel
theorem dX2_joined_146 : decode cX2_joined 146 = .ok (.if_icmp .ge 7, 3) := by decide +kernel
theorem dX2_joined_149 : decode cX2_joined 149 = .ok (.iconst 1, 1) := by decide +kernel
theorem dX2_joined_150 : decode cX2_joined 150 = .ok (.goto 4, 3) := by decide +kernel
theorem dX2_joined_153 : decode cX2_joined 153 = .ok (.iconst 0, 1) := by decide +kernel
theorem dX2_joined_154 : decode cX2_joined 154 = .ok (.ireturn, 1) := by decide +kernel
theorem dX2_joined_155 : decode cX2_joined 155 = .ok (.iload_n 2, 1) := by decide +kernel
theorem dX2_joined_156 : decode cX2_joined 156 = .ok (.iload_n 3, 1) := by decide +kernel
theorem dX2_joined_157 : decode cX2_joined 157 = .ok (.if_icmp .le 7, 3) := by decide +kernel
theorem dX2_joined_160 : decode cX2_joined 160 = .ok (.iconst 1, 1) := by decide +kernel
theorem dX2_joined_161 : decode cX2_joined 161 = .ok (.goto 4, 3) := by decide +kernel
theorem dX2_joined_164 : decode cX2_joined 164 = .ok (.iconst 0, 1) := by decide +kernel
theorem dX2_joined_165 : decode cX2_joined 165 = .ok (.ireturn, 1) := by decide +kernel
theorem dX2_joined_166 : decode cX2_joined 166 = .ok (.iload_n 2, 1) := by decide +kernel
theorem dX2_joined_167 : decode cX2_joined 167 = .ok (.iload_n 3, 1) := by decide +kernel
theorem dX2_joined_168 : decode cX2_joined 168 = .ok (.if_icmp .ne 7, 3) := by decide +kernel
theorem dX2_joined_171 : decode cX2_joined 171 = .ok (.iconst 1, 1) := by decide +kernel
theorem dX2_joined_172 : decode cX2_joined 172 = .ok (.goto 4, 3) := by decide +kernel
theorem dX2_joined_175 : decode cX2_joined 175 = .ok (.iconst 0, 1) := by decide +kernel
theorem dX2_joined_176 : decode cX2_joined 176 = .ok (.ireturn, 1) := by decide +kernel
theorem dX2_joined_177 : decode cX2_joined 177 = .ok (.iload_n 2, 1) := by decide +kernel
theorem dX2_joined_178 : decode cX2_joined 178 = .ok (.iload_n 3, 1) := by decide +kernel
theorem dX2_joined_179 : decode cX2_joined 179 = .ok (.iadd, 1) := by decide +kernel
theorem dX2_joined_180 : decode cX2_joined 180 = .ok (.ireturn, 1) := by decide +kernel
theorem dX2_joined_181 : decode cX2_joined 181 = .ok (.iload_n 2, 1) := by decide +kernel
theorem dX2_joined_182 : decode cX2_joined 182 = .ok (.iload_n 3, 1) := by decide +kernel
theorem dX2_joined_183 : decode cX2_joined 183 = .ok (.isub, 1) := by decide +kernel
theorem dX2_joined_184 : decode cX2_joined 184 = .ok (.ireturn, 1) := by decide +kernel
theorem dX2_joined_185 : decode cX2_joined 185 = .ok (.iload_n 2, 1) := by decide +kernel
theorem dX2_joined_186 : decode cX2_joined 186 = .ok (.iload_n 3, 1) := by decide +kernel
theorem dX2_joined_187 : decode cX2_joined 187 = .ok (.imul, 1) := by decide +kernel
theorem dX2_joined_188 : decode cX2_joined 188 = .ok (.ireturn, 1) := by decide +kernel
theorem dX2_joined_189 : decode cX2_joined 189 = .ok (.iload_n 3, 1) := by decide +kernel
theorem dX2_joined_190 : decode cX2_joined 190 = .ok (.ifCond .ne 7, 3) := by decide +kernel
theorem dX2_joined_193 : decode cX2_joined 193 = .ok (.iconst 0, 1) := by decide +kernel
theorem dX2_joined_194 : decode cX2_joined 194 = .ok (.goto 6, 3) := by decide +kernel
theorem dX2_joined_197 : decode cX2_joined 197 = .ok (.iload_n 2, 1) := by decide +kernel
theorem dX2_joined_198 : decode cX2_joined 198 = .ok (.iload_n 3, 1) := by decide +kernel
theorem dX2_joined_199 : decode cX2_joined 199 = .ok (.idiv, 1) := by decide +kernel
theorem dX2_joined_200 : decode cX2_joined 200 = .ok (.ireturn, 1) := by decide +kernel
theorem dX2_joined_201 : decode cX2_joined 201 = .ok (.iload_n 3, 1) := by decide +kernel
theorem dX2_joined_202 : decode cX2_joined 202 = .ok (.ifCond .ne 7, 3) := by decide +kernel
theorem dX2_joined_205 : decode cX2_joined 205 = .ok (.iconst 0, 1) := by decide +kernel
theorem dX2_joined_206 : decode cX2_joined 206 = .ok (.goto 6, 3) := by decide +kernel
theorem dX2_joined_209 : decode cX2_joined 209 = .ok (.iload_n 2, 1) := by decide +kernel
theorem dX2_joined_210 : decode cX2_joined 210 = .ok (.iload_n 3, 1) := by decide +kernel
theorem dX2_joined_211 : decode cX2_joined 211 = .ok (.irem, 1) := by decide +kernel
theorem dX2_joined_212 : decode cX2_joined 212 = .ok (.ireturn, 1) := by decide +kernel
theorem dX2_joined_213 : decode cX2_joined 213 = .ok (.iload_n 2, 1) := by decide +kernel
theorem dX2_joined_214 : decode cX2_joined 214 = .ok (.ireturn, 1) := by decide +kernel
theorem dX3_init_0 : decode cX3_init 0 = .ok (.aload_n 0, 1) := by decide +kernel
theorem dX3_init_1 : decode cX3_init 1 = .ok (.invokespecial 3, 3) := by decide +kernel
theorem dX3_init_4 : decode cX3_init 4 = .ok (.aload_n 0, 1) := by decide +kernel
theorem dX3_init_5 : decode cX3_init 5 = .ok (.bipush 20, 2) := by decide +kernel
theorem dX3_init_7 : decode cX3_init 7 = .ok (.newarray .int, 2) := by decide +kernel
theorem dX3_init_9 : decode cX3_init 9 = .ok (.putfield 11, 3) := by decide +kernel
theorem dX3_init_12 : decode cX3_init 12 = .ok (.aload_n 0, 1) := by decide +kernel
theorem dX3_init_13 : decode cX3_init 13 = .ok (.bipush 20, 2) := by decide +kernel
theorem dX3_init_15 : decode cX3_init 15 = .ok (.newarray .int, 2) := by decide +kernel
theorem dX3_init_17 : decode cX3_init 17 = .ok (.putfield 15, 3) := by decide +kernel
theorem dX3_init_20 : decode cX3_init 20 = .ok (.aload_n 0, 1) := by decide +kernel
theorem dX3_init_21 : decode cX3_init 21 = .ok (.bipush 20, 2) := by decide +kernel
theorem dX3_init_23 : decode cX3_init 23 = .ok (.newarray .int, 2) := by decide +kernel
theorem dX3_init_25 : decode cX3_init 25 = .ok (.putfield 18, 3) := by decide +kernel
theorem dX3_init_28 : decode cX3_init 28 = .ok (.aload_n 0, 1) := by decide +kernel
theorem dX3_init_29 : decode cX3_init 29 = .ok (.iconst 0, 1) := by decide +kernel
theorem dX3_init_30 : decode cX3_init 30 = .ok (.putfield 21, 3) := by decide +kernel
theorem dX3_init_33 : decode cX3_init 33 = .ok (.return_, 1) := by decide +kernel
theorem dX3_read_0 : decode cX3_read 0 = .ok (.aload_n 0, 1) := by decide +kernel
theorem dX3_read_1 : decode cX3_read 1 = .ok (.iconst 0, 1) := by decide +kernel
theorem dX3_read_2 : decode cX3_read 2 = .ok (.putfield 21, 3) := by decide +kernel
theorem dX3_read_5 : decode cX3_read 5 = .ok (.iconst 1, 1) := by decide +kernel
theorem dX3_read_6 : decode cX3_read 6 = .ok (.istore_n 3, 1) := by decide +kernel
theorem dX3_read_7 : decode cX3_read 7 = .ok (.iconst 0, 1) := by decide +kernel
theorem dX3_read_8 : decode cX3_read 8 = .ok (.istore 4, 2) := by decide +kernel
theorem dX3_read_10 : decode cX3_read 10 = .ok (.iload_n 3, 1) := by decide +kernel
theorem dX3_read_11 : decode cX3_read 11 = .ok (.ifCond .eq 27, 3) := by decide +kernel
theorem dX3_read_14 : decode cX3_read 14 = .ok (.iload 4, 2) := by decide +kernel
theorem dX3_read_16 : decode cX3_read 16 = .ok (.bipush 120, 2) := by decide +kernel
theorem dX3_read_18 : decode cX3_read 18 = .ok (.if_icmp .ge 20, 3) := by decide +kernel
theorem dX3_read_21 : decode cX3_read 21 = .ok (.aload_n 0, 1) := by decide +kernel
theorem dX3_read_22 : decode cX3_read 22 = .ok (.aload_n 1, 1) := by decide +kernel
theorem dX3_read_23 : decode cX3_read 23 = .ok (.aload_n 2, 1) := by decide +kernel
theorem dX3_read_24 : decode cX3_read 24 = .ok (.invokevirtual 25, 3) := by decide +kernel
theorem dX3_read_27 : decode cX3_read 27 = .ok (.aload_n 1, 1) := by decide +kernel
theorem dX3_read_28 : decode cX3_read 28 = .ok (.invokevirtual 29, 3) := by decide +kernel
theorem dX3_read_31 : decode cX3_read 31 = .ok (.istore_n 3, 1) := by decide +kernel
theorem dX3_read_32 : decode cX3_read 32 = .ok (.iinc 4 1, 3) := by decide +kernel
theorem dX3_read_35 : decode cX3_read 35 = .ok (.goto (-25), 3) := by decide +kernel
theorem dX3_read_38 : decode cX3_read 38 = .ok (.return_, 1) := by decide +kernel
theorem dX3_line_0 : decode cX3_line 0 = .ok (.aload_n 1, 1) := by decide +kernel
theorem dX3_line_1 : decode cX3_line 1 = .ok (.invokevirtual 35, 3) := by decide +kernel
theorem dX3_line_4 : decode cX3_line 4 = .ok (.invokestatic 39, 3) := by decide +kernel
theorem dX3_line_7 : decode cX3_line 7 = .ok (.istore_n 3, 1) := by decide +kernel
theorem dX3_line_8 : decode cX3_line 8 = .ok (.iload_n 3, 1) := by decide +kernel
theorem dX3_line_9 : decode cX3_line 9 = .ok (.iconst (-1), 1) := by decide +kernel
theorem dX3_line_10 : decode cX3_line 10 = .ok (.if_icmp .ne 11, 3) := by decide +kernel
theorem dX3_line_13 : decode cX3_line 13 = .ok (.aload_n 1, 1) := by decide +kernel
theorem dX3_line_14 : decode cX3_line 14 = .ok (.iconst 1, 1) := by decide +kernel
theorem dX3_line_15 : decode cX3_line 15 = .ok (.invokevirtual 43, 3) := by decide +kernel
theorem dX3_line_18 : decode cX3_line 18 = .ok (.goto 34, 3) := by decide +kernel
theorem dX3_line_21 : decode cX3_line 21 = .ok (.aload_n 0, 1) := by decide +kernel
theorem dX3_line_22 : decode cX3_line 22 = .ok (.getfield 21, 3) := by decide +kernel
theorem dX3_line_25 : decode cX3_line 25 = .ok (.bipush 20, 2) := by decide +kernel
theorem dX3_line_27 : decode cX3_line 27 = .ok (.if_icmp .lt 11, 3) := by decide +kernel
theorem dX3_line_30 : decode cX3_line 30 = .ok (.aload_n 1, 1) := by decide +kernel
theorem dX3_line_31 : decode cX3_line 31 = .ok (.iconst 4, 1) := by decide +kernel
theorem dX3_line_32 : decode cX3_line 32 = .ok (.invokevirtual 43, 3) := by decide +kernel
theorem dX3_line_35 : decode cX3_line 35 = .ok (.goto 17, 3) := by decide +kernel
theorem dX3_line_38 : decode cX3_line 38 = .ok (.aload_n 2, 1) := by decide +kernel
theorem dX3_line_39 : decode cX3_line 39 = .ok (.iload_n 3, 1) := by decide +kernel
theorem dX3_line_40 : decode cX3_line 40 = .ok (.invokevirtual 47, 3) := by decide +kernel
theorem dX3_line_43 : decode cX3_line 43 = .ok (.ifCond .ne 9, 3) := by decide +kernel
theorem dX3_line_46 : decode cX3_line 46 = .ok (.aload_n 1, 1) := by decide +kernel
theorem dX3_line_47 : decode cX3_line 47 = .ok (.bipush 7, 2) := by decide +kernel
theorem dX3_line_49 : decode cX3_line 49 = .ok (.invokevirtual 43, 3) := by decide +kernel
theorem dX3_line_52 : decode cX3_line 52 = .ok (.aload_n 1, 1) := by decide +kernel
theorem dX3_line_53 : decode cX3_line 53 = .ok (.invokevirtual 53, 3) := by decide +kernel
theorem dX3_line_56 : decode cX3_line 56 = .ok (.ifCond .ne 4, 3) := by decide +kernel
theorem dX3_line_59 : decode cX3_line 59 = .ok (.return_, 1) := by decide +kernel
theorem dX3_line_60 : decode cX3_line 60 = .ok (.aload_n 1, 1) := by decide +kernel
theorem dX3_line_61 : decode cX3_line 61 = .ok (.invokevirtual 56, 3) := by decide +kernel
theorem dX3_line_64 : decode cX3_line 64 = .ok (.aload_n 1, 1) := by decide +kernel
theorem dX3_line_65 : decode cX3_line 65 = .ok (.invokevirtual 35, 3) := by decide +kernel
theorem dX3_line_68 : decode cX3_line 68 = .ok (.istore 4, 2) := by decide +kernel
theorem dX3_line_70 : decode cX3_line 70 = .ok (.iload 4, 2) := by decide +kernel
theorem dX3_line_72 : decode cX3_line 72 = .ok (.invokestatic 59, 3) := by decide +kernel
theorem dX3_line_75 : decode cX3_line 75 = .ok (.ifCond .ne 9, 3) := by decide +kernel
theorem dX3_line_78 : decode cX3_line 78 = .ok (.aload_n 1, 1) := by decide +kernel
theorem dX3_line_79 : decode cX3_line 79 = .ok (.iconst 1, 1) := by decide +kernel
theorem dX3_line_80 : decode cX3_line 80 = .ok (.invokevirtual 43, 3) := by decide +kernel
theorem dX3_line_83 : decode cX3_line 83 = .ok (.return_, 1) := by decide +kernel
theorem dX3_line_84 : decode cX3_line 84 = .ok (.aload_n 1, 1) := by decide +kernel
theorem dX3_line_85 : decode cX3_line 85 = .ok (.invokevirtual 56, 3) := by decide +kernel
theorem dX3_line_88 : decode cX3_line 88 = .ok (.iload 4, 2) := by decide +kernel
theorem dX3_line_90 : decode cX3_line 90 = .ok (.bipush 38, 2) := by decide +kernel
theorem dX3_line_92 : decode cX3_line 92 = .ok (.if_icmp .eq 10, 3) := by decide +kernel
theorem dX3_line_95 : decode cX3_line 95 = .ok (.iload 4, 2) := by decide +kernel
theorem dX3_line_97 : decode cX3_line 97 = .ok (.bipush 47, 2) := by decide +kernel
theorem dX3_line_99 : decode cX3_line 99 = .ok (.if_icmp .ne 12, 3) := by decide +kernel
theorem dX3_line_102 : decode cX3_line 102 = .ok (.aload_n 1, 1) := by decide +kernel
theorem dX3_line_103 : decode cX3_line 103 = .ok (.aload_n 2, 1) := by decide +kernel
theorem dX3_line_104 : decode cX3_line 104 = .ok (.iload_n 3, 1) := by decide +kernel
theorem dX3_line_105 : decode cX3_line 105 = .ok (.invokestatic 62, 3) := by decide +kernel
theorem dX3_line_108 : decode cX3_line 108 = .ok (.goto 19, 3) := by decide +kernel
theorem dX3_line_111 : decode cX3_line 111 = .ok (.aload_n 1, 1) := by decide +kernel
theorem dX3_line_112 : decode cX3_line 112 = .ok (.iload 4, 2) := by decide +kernel
theorem dX3_line_114 : decode cX3_line 114 = .ok (.bipush 61, 2) := by decide +kernel
theorem dX3_line_116 : decode cX3_line 116 = .ok (.if_icmp .ne 7, 3) := by decide +kernel
theorem dX3_line_119 : decode cX3_line 119 = .ok (.iconst 3, 1) := by decide +kernel
theorem dX3_line_120 : decode cX3_line 120 = .ok (.goto 4, 3) := by decide +kernel
theorem dX3_line_123 : decode cX3_line 123 = .ok (.iconst 2, 1) := by decide +kernel
theorem dX3_line_124 : decode cX3_line 124 = .ok (.invokevirtual 66, 3) := by decide +kernel
theorem dX3_line_127 : decode cX3_line 127 = .ok (.istore 5, 2) := by decide +kernel
theorem dX3_line_129 : decode cX3_line 129 = .ok (.aload_n 0, 1) := by decide +kernel
theorem dX3_line_130 : decode cX3_line 130 = .ok (.getfield 11, 3) := by decide +kernel
theorem dX3_line_133 : decode cX3_line 133 = .ok (.aload_n 0, 1) := by decide +kernel
theorem dX3_line_134 : decode cX3_line 134 = .ok (.getfield 21, 3) := by decide +kernel
theorem dX3_line_137 : decode cX3_line 137 = .ok (.iload_n 3, 1) := by decide +kernel
theorem dX3_line_138 : decode cX3_line 138 = .ok (.invokestatic 69, 3) := by decide +kernel
theorem dX3_line_141 : decode cX3_line 141 = .ok (.aload_n 0, 1) := by decide +kernel
theorem dX3_line_142 : decode cX3_line 142 = .ok (.getfield 15, 3) := by decide +kernel
theorem dX3_line_145 : decode cX3_line 145 = .ok (.aload_n 0, 1) := by decide +kernel
theorem dX3_line_146 : decode cX3_line 146 = .ok (.getfield 21, 3) := by decide +kernel
theorem dX3_line_149 : decode cX3_line 149 = .ok (.iload 4, 2) := by decide +kernel
theorem dX3_line_151 : decode cX3_line 151 = .ok (.invokestatic 69, 3) := by decide +kernel
theorem dX3_line_154 : decode cX3_line 154 = .ok (.aload_n 0, 1) := by decide +kernel
theorem dX3_line_155 : decode cX3_line 155 = .ok (.getfield 18, 3) := by decide +kernel
theorem dX3_line_158 : decode cX3_line 158 = .ok (.aload_n 0, 1) := by decide +kernel
theorem dX3_line_159 : decode cX3_line 159 = .ok (.getfield 21, 3) := by decide +kernel
theorem dX3_line_162 : decode cX3_line 162 = .ok (.iload 5, 2) := by decide +kernel
theorem dX3_line_164 : decode cX3_line 164 = .ok (.invokestatic 69, 3) := by decide +kernel
theorem dX3_line_167 : decode cX3_line 167 = .ok (.aload_n 0, 1) := by decide +kernel
theorem dX3_line_168 : decode cX3_line 168 = .ok (.dup, 1) := by decide +kernel
theorem dX3_line_169 : decode cX3_line 169 = .ok (.getfield 21, 3) := by decide +kernel
theorem dX3_line_172 : decode cX3_line 172 = .ok (.iconst 1, 1) := by decide +kernel
theorem dX3_line_173 : decode cX3_line 173 = .ok (.iadd, 1) := by decide +kernel
theorem dX3_line_174 : decode cX3_line 174 = .ok (.putfield 21, 3) := by decide +kernel
theorem dX3_line_177 : decode cX3_line 177 = .ok (.return_, 1) := by decide +kernel
theorem dX3_isSign_0 : decode cX3_isSign 0 = .ok (.iload_n 0, 1) := by decide +kernel
theorem dX3_isSign_1 : decode cX3_isSign 1 = .ok (.bipush 43, 2) := by decide +kernel
theorem dX3_isSign_3 : decode cX3_isSign 3 = .ok (.if_icmp .eq 27, 3) := by decide +kernel
theorem dX3_isSign_6 : decode cX3_isSign 6 = .ok (.iload_n 0, 1) := by decide +kernel
theorem dX3_isSign_7 : decode cX3_isSign 7 = .ok (.bipush 45, 2) := by decide +kernel
theorem dX3_isSign_9 : decode cX3_isSign 9 = .ok (.if_icmp .eq 21, 3) := by decide +kernel
theorem dX3_isSign_12 : decode cX3_isSign 12 = .ok (.iload_n 0, 1) := by decide +kernel
theorem dX3_isSign_13 : decode cX3_isSign 13 = .ok (.bipush 61, 2) := by decide +kernel
theorem dX3_isSign_15 : decode cX3_isSign 15 = .ok (.if_icmp .eq 15, 3) := by decide +kernel
theorem dX3_isSign_18 : decode cX3_isSign 18 = .ok (.iload_n 0, 1) := by decide +kernel
theorem dX3_isSign_19 : decode cX3_isSign 19 = .ok (.bipush 38, 2) := by decide +kernel
theorem dX3_isSign_21 : decode cX3_isSign 21 = .ok (.if_icmp .eq 9, 3) := by decide +kernel
theorem dX3_isSign_24 : decode cX3_isSign 24 = .ok (.iload_n 0, 1) := by decide +kernel
theorem dX3_isSign_25 : decode cX3_isSign 25 = .ok (.bipush 47, 2) := by decide +kernel
theorem dX3_isSign_27 : decode cX3_isSign 27 = .ok (.if_icmp .ne 7, 3) := by decide +kernel
theorem dX3_isSign_30 : decode cX3_isSign 30 = .ok (.iconst 1, 1) := by decide +kernel
theorem dX3_isSign_31 : decode cX3_isSign 31 = .ok (.goto 4, 3) := by decide +kernel
theorem dX3_isSign_34 : decode cX3_isSign 34 = .ok (.iconst 0, 1) := by decide +kernel
theorem dX3_isSign_35 : decode cX3_isSign 35 = .ok (.ireturn, 1) := by decide +kernel
theorem dX3_other_0 : decode cX3_other 0 = .ok (.aload_n 0, 1) := by decide +kernel
theorem dX3_other_1 : decode cX3_other 1 = .ok (.invokevirtual 35, 3) := by decide +kernel
theorem dX3_other_4 : decode cX3_other 4 = .ok (.invokestatic 39, 3) := by decide +kernel
theorem dX3_other_7 : decode cX3_other 7 = .ok (.istore_n 3, 1) := by decide +kernel
theorem dX3_other_8 : decode cX3_other 8 = .ok (.iload_n 3, 1) := by decide +kernel
theorem dX3_other_9 : decode cX3_other 9 = .ok (.iconst (-1), 1) := by decide +kernel
theorem dX3_other_10 : decode cX3_other 10 = .ok (.if_icmp .ne 11, 3) := by decide +kernel
theorem dX3_other_13 : decode cX3_other 13 = .ok (.aload_n 0, 1) := by decide +kernel
theorem dX3_other_14 : decode cX3_other 14 = .ok (.iconst 1, 1) := by decide +kernel
theorem dX3_other_15 : decode cX3_other 15 = .ok (.invokevirtual 43, 3) := by decide +kernel
theorem dX3_other_18 : decode cX3_other 18 = .ok (.goto 38, 3) := by decide +kernel
theorem dX3_other_21 : decode cX3_other 21 = .ok (.iload_n 3, 1) := by decide +kernel
theorem dX3_other_22 : decode cX3_other 22 = .ok (.iload_n 2, 1) := by decide +kernel
theorem dX3_other_23 : decode cX3_other 23 = .ok (.if_icmp .ne 12, 3) := by decide +kernel
theorem dX3_other_26 : decode cX3_other 26 = .ok (.aload_n 0, 1) := by decide +kernel
theorem dX3_other_27 : decode cX3_other 27 = .ok (.bipush 6, 2) := by decide +kernel
theorem dX3_other_29 : decode cX3_other 29 = .ok (.invokevirtual 43, 3) := by decide +kernel
theorem dX3_other_32 : decode cX3_other 32 = .ok (.goto 24, 3) := by decide +kernel
theorem dX3_other_35 : decode cX3_other 35 = .ok (.aload_n 1, 1) := by decide +kernel
theorem dX3_other_36 : decode cX3_other 36 = .ok (.iload_n 3, 1) := by decide +kernel
theorem dX3_other_37 : decode cX3_other 37 = .ok (.invokevirtual 47, 3) := by decide +kernel
theorem dX3_other_40 : decode cX3_other 40 = .ok (.ifCond .ne 12, 3) := by decide +kernel
theorem dX3_other_43 : decode cX3_other 43 = .ok (.aload_n 0, 1) := by decide +kernel
theorem dX3_other_44 : decode cX3_other 44 = .ok (.bipush 7, 2) := by decide +kernel
theorem dX3_other_46 : decode cX3_other 46 = .ok (.invokevirtual 43, 3) := by decide +kernel
theorem dX3_other_49 : decode cX3_other 49 = .ok (.goto 7, 3) := by decide +kernel
theorem dX3_other_52 : decode cX3_other 52 = .ok (.aload_n 0, 1) := by decide +kernel
theorem dX3_other_53 : decode cX3_other 53 = .ok (.invokevirtual 56, 3) := by decide +kernel
theorem dX3_other_56 : decode cX3_other 56 = .ok (.iload_n 3, 1) := by decide +kernel
theorem dX3_other_57 : decode cX3_other 57 = .ok (.ireturn, 1) := by decide +kernel
theorem dX3_grant_0 : decode cX3_grant 0 = .ok (.iconst 0, 1) := by decide +kernel
theorem dX3_grant_1 : decode cX3_grant 1 = .ok (.istore_n 3, 1) := by decide +kernel
theorem dX3_grant_2 : decode cX3_grant 2 = .ok (.iload_n 3, 1) := by decide +kernel
theorem dX3_grant_3 : decode cX3_grant 3 = .ok (.aload_n 0, 1) := by decide +kernel
theorem dX3_grant_4 : decode cX3_grant 4 = .ok (.getfield 21, 3) := by decide +kernel
theorem dX3_grant_7 : decode cX3_grant 7 = .ok (.if_icmp .ge 170, 3) := by decide +kernel
theorem dX3_grant_10 : decode cX3_grant 10 = .ok (.aload_n 0, 1) := by decide +kernel
theorem dX3_grant_11 : decode cX3_grant 11 = .ok (.getfield 11, 3) := by decide +kernel
theorem dX3_grant_14 : decode cX3_grant 14 = .ok (.iload_n 3, 1) := by decide +kernel
theorem dX3_grant_15 : decode cX3_grant 15 = .ok (.invokestatic 73, 3) := by decide +kernel
theorem dX3_grant_18 : decode cX3_grant 18 = .ok (.istore 4, 2) := by decide +kernel
theorem dX3_grant_20 : decode cX3_grant 20 = .ok (.aload_n 0, 1) := by decide +kernel
theorem dX3_grant_21 : decode cX3_grant 21 = .ok (.getfield 18, 3) := by decide +kernel
theorem dX3_grant_24 : decode cX3_grant 24 = .ok (.iload_n 3, 1) := by decide +kernel
theorem dX3_grant_25 : decode cX3_grant 25 = .ok (.invokestatic 73, 3) := by decide +kernel
theorem dX3_grant_28 : decode cX3_grant 28 = .ok (.istore 5, 2) := by decide +kernel
theorem dX3_grant_30 : decode cX3_grant 30 = .ok (.aload_n 1, 1) := by decide +kernel
theorem dX3_grant_31 : decode cX3_grant 31 = .ok (.getfield 77, 3) := by decide +kernel
theorem dX3_grant_34 : decode cX3_grant 34 = .ok (.iload 4, 2) := by decide +kernel
theorem dX3_grant_36 : decode cX3_grant 36 = .ok (.invokestatic 73, 3) := by decide +kernel
theorem dX3_grant_39 : decode cX3_grant 39 = .ok (.istore 6, 2) := by decide +kernel
theorem dX3_grant_41 : decode cX3_grant 41 = .ok (.aload_n 0, 1) := by decide +kernel
theorem dX3_grant_42 : decode cX3_grant 42 = .ok (.getfield 15, 3) := by decide +kernel
theorem dX3_grant_45 : decode cX3_grant 45 = .ok (.iload_n 3, 1) := by decide +kernel
theorem dX3_grant_46 : decode cX3_grant 46 = .ok (.invokestatic 73, 3) := by decide +kernel
theorem dX3_grant_49 : decode cX3_grant 49 = .ok (.lookupswitch 114 #[(38, 103), (43, 43), (45, 66), (61, 89)], 43) := by decide +kernel
theorem dX3_grant_92 : decode cX3_grant 92 = .ok (.aload_n 1, 1) := by decide +kernel
theorem dX3_grant_93 : decode cX3_grant 93 = .ok (.getfield 77, 3) := by decide +kernel
theorem dX3_grant_96 : decode cX3_grant 96 = .ok (.iload 4, 2) := by decide +kernel
theorem dX3_grant_98 : decode cX3_grant 98 = .ok (.iload 6, 2) := by decide +kernel
theorem dX3_grant_100 : decode cX3_grant 100 = .ok (.iload 5, 2) := by decide +kernel
theorem dX3_grant_102 : decode cX3_grant 102 = .ok (.iadd, 1) := by decide +kernel
theorem dX3_grant_103 : decode cX3_grant 103 = .ok (.iconst 0, 1) := by decide +kernel
theorem dX3_grant_104 : decode cX3_grant 104 = .ok (.bipush 99, 2) := by decide +kernel
theorem dX3_grant_106 : decode cX3_grant 106 = .ok (.invokestatic 82, 3) := by decide +kernel
theorem dX3_grant_109 : decode cX3_grant 109 = .ok (.invokestatic 69, 3) := by decide +kernel
theorem dX3_grant_112 : decode cX3_grant 112 = .ok (.goto 59, 3) := by decide +kernel
theorem dX3_grant_115 : decode cX3_grant 115 = .ok (.aload_n 1, 1) := by decide +kernel
theorem dX3_grant_116 : decode cX3_grant 116 = .ok (.getfield 77, 3) := by decide +kernel
theorem dX3_grant_119 : decode cX3_grant 119 = .ok (.iload 4, 2) := by decide +kernel
theorem dX3_grant_121 : decode cX3_grant 121 = .ok (.iload 6, 2) := by decide +kernel
theorem dX3_grant_123 : decode cX3_grant 123 = .ok (.iload 5, 2) := by decide +kernel
theorem dX3_grant_125 : decode cX3_grant 125 = .ok (.isub, 1) := by decide +kernel
theorem dX3_grant_126 : decode cX3_grant 126 = .ok (.iconst 0, 1) := by decide +kernel
theorem dX3_grant_127 : decode cX3_grant 127 = .ok (.bipush 99, 2) := by decide +kernel
theorem dX3_grant_129 : decode cX3_grant 129 = .ok (.invokestatic 82, 3) := by decide +kernel
theorem dX3_grant_132 : decode cX3_grant 132 = .ok (.invokestatic 69, 3) := by decide +kernel
theorem dX3_grant_135 : decode cX3_grant 135 = .ok (.goto 36, 3) := by decide +kernel
theorem dX3_grant_138 : decode cX3_grant 138 = .ok (.aload_n 1, 1) := by decide +kernel
theorem dX3_grant_139 : decode cX3_grant 139 = .ok (.getfield 86, 3) := by decide +kernel
theorem dX3_grant_142 : decode cX3_grant 142 = .ok (.iload 4, 2) := by decide +kernel
theorem dX3_grant_144 : decode cX3_grant 144 = .ok (.iload 5, 2) := by decide +kernel
theorem dX3_grant_146 : decode cX3_grant 146 = .ok (.invokestatic 69, 3) := by decide +kernel
theorem dX3_grant_149 : decode cX3_grant 149 = .ok (.goto 22, 3) := by decide +kernel
theorem dX3_grant_152 : decode cX3_grant 152 = .ok (.aload_n 2, 1) := by decide +kernel
theorem dX3_grant_153 : decode cX3_grant 153 = .ok (.iload 4, 2) := by decide +kernel
theorem dX3_grant_155 : decode cX3_grant 155 = .ok (.iload 5, 2) := by decide +kernel
theorem dX3_grant_157 : decode cX3_grant 157 = .ok (.invokevirtual 89, 3) := by decide +kernel
theorem dX3_grant_160 : decode cX3_grant 160 = .ok (.goto 11, 3) := by decide +kernel
theorem dX3_grant_163 : decode cX3_grant 163 = .ok (.aload_n 2, 1) := by decide +kernel
theorem dX3_grant_164 : decode cX3_grant 164 = .ok (.iload 4, 2) := by decide +kernel
theorem dX3_grant_166 : decode cX3_grant 166 = .ok (.iload 5, 2) := by decide +kernel
theorem dX3_grant_168 : decode cX3_grant 168 = .ok (.invokevirtual 93, 3) := by decide +kernel
theorem dX3_grant_171 : decode cX3_grant 171 = .ok (.iinc 3 1, 3) := by decide +kernel
theorem dX3_grant_174 : decode cX3_grant 174 = .ok (.goto (-172), 3) := by decide +kernel
theorem dX3_grant_177 : decode cX3_grant 177 = .ok (.return_, 1) := by decide +kernel
theorem dX4_init_0 : decode cX4_init 0 = .ok (.aload_n 0, 1) := by decide +kernel
theorem dX4_init_1 : decode cX4_init 1 = .ok (.invokespecial 3, 3) := by decide +kernel
theorem dX4_init_4 : decode cX4_init 4 = .ok (.aload_n 0, 1) := by decide +kernel
theorem dX4_init_5 : decode cX4_init 5 = .ok (.bipush 16, 2) := by decide +kernel
theorem dX4_init_7 : decode cX4_init 7 = .ok (.newarray .int, 2) := by decide +kernel
theorem dX4_init_9 : decode cX4_init 9 = .ok (.putfield 9, 3) := by decide +kernel
theorem dX4_init_12 : decode cX4_init 12 = .ok (.return_, 1) := by decide +kernel
theorem dX4_fewest_0 : decode cX4_fewest 0 = .ok (.iconst 0, 1) := by decide +kernel
theorem dX4_fewest_1 : decode cX4_fewest 1 = .ok (.istore_n 2, 1) := by decide +kernel
theorem dX4_fewest_2 : decode cX4_fewest 2 = .ok (.iload_n 2, 1) := by decide +kernel
theorem dX4_fewest_3 : decode cX4_fewest 3 = .ok (.aload_n 0, 1) := by decide +kernel
theorem dX4_fewest_4 : decode cX4_fewest 4 = .ok (.getfield 9, 3) := by decide +kernel
theorem dX4_fewest_7 : decode cX4_fewest 7 = .ok (.arraylength, 1) := by decide +kernel
theorem dX4_fewest_8 : decode cX4_fewest 8 = .ok (.if_icmp .ge 16, 3) := by decide +kernel
theorem dX4_fewest_11 : decode cX4_fewest 11 = .ok (.aload_n 0, 1) := by decide +kernel
theorem dX4_fewest_12 : decode cX4_fewest 12 = .ok (.getfield 9, 3) := by decide +kernel
theorem dX4_fewest_15 : decode cX4_fewest 15 = .ok (.iload_n 2, 1) := by decide +kernel
theorem dX4_fewest_16 : decode cX4_fewest 16 = .ok (.iconst 0, 1) := by decide +kernel
theorem dX4_fewest_17 : decode cX4_fewest 17 = .ok (.iastore, 1) := by decide +kernel
theorem dX4_fewest_18 : decode cX4_fewest 18 = .ok (.iinc 2 1, 3) := by decide +kernel
theorem dX4_fewest_21 : decode cX4_fewest 21 = .ok (.goto (-19), 3) := by decide +kernel
theorem dX4_fewest_24 : decode cX4_fewest 24 = .ok (.iconst 0, 1) := by decide +kernel
theorem dX4_fewest_25 : decode cX4_fewest 25 = .ok (.istore_n 2, 1) := by decide +kernel
theorem dX4_fewest_26 : decode cX4_fewest 26 = .ok (.iload_n 2, 1) := by decide +kernel
theorem dX4_fewest_27 : decode cX4_fewest 27 = .ok (.bipush 16, 2) := by decide +kernel
theorem dX4_fewest_29 : decode cX4_fewest 29 = .ok (.if_icmp .ge 28, 3) := by decide +kernel
theorem dX4_fewest_32 : decode cX4_fewest 32 = .ok (.aload_n 0, 1) := by decide +kernel
theorem dX4_fewest_33 : decode cX4_fewest 33 = .ok (.getfield 9, 3) := by decide +kernel
theorem dX4_fewest_36 : decode cX4_fewest 36 = .ok (.aload_n 1, 1) := by decide +kernel
theorem dX4_fewest_37 : decode cX4_fewest 37 = .ok (.getfield 15, 3) := by decide +kernel
theorem dX4_fewest_40 : decode cX4_fewest 40 = .ok (.aload_n 1, 1) := by decide +kernel
theorem dX4_fewest_41 : decode cX4_fewest 41 = .ok (.getfield 20, 3) := by decide +kernel
theorem dX4_fewest_44 : decode cX4_fewest 44 = .ok (.iload_n 2, 1) := by decide +kernel
theorem dX4_fewest_45 : decode cX4_fewest 45 = .ok (.invokestatic 24, 3) := by decide +kernel
theorem dX4_fewest_48 : decode cX4_fewest 48 = .ok (.ifCond .ne 9, 3) := by decide +kernel
theorem dX4_fewest_51 : decode cX4_fewest 51 = .ok (.iinc 2 1, 3) := by decide +kernel
theorem dX4_fewest_54 : decode cX4_fewest 54 = .ok (.goto (-28), 3) := by decide +kernel
theorem dX4_fewest_57 : decode cX4_fewest 57 = .ok (.iload_n 2, 1) := by decide +kernel
theorem dX4_fewest_58 : decode cX4_fewest 58 = .ok (.ireturn, 1) := by decide +kernel
theorem dX4_watchOf_0 : decode cX4_watchOf 0 = .ok (.aload_n 3, 1) := by decide +kernel
theorem dX4_watchOf_1 : decode cX4_watchOf 1 = .ok (.getfield 20, 3) := by decide +kernel
theorem dX4_watchOf_4 : decode cX4_watchOf 4 = .ok (.istore 4, 2) := by decide +kernel
theorem dX4_watchOf_6 : decode cX4_watchOf 6 = .ok (.iconst (-1), 1) := by decide +kernel
theorem dX4_watchOf_7 : decode cX4_watchOf 7 = .ok (.istore 5, 2) := by decide +kernel
theorem dX4_watchOf_9 : decode cX4_watchOf 9 = .ok (.iconst 0, 1) := by decide +kernel
theorem dX4_watchOf_10 : decode cX4_watchOf 10 = .ok (.istore 6, 2) := by decide +kernel
theorem dX4_watchOf_12 : decode cX4_watchOf 12 = .ok (.iload 6, 2) := by decide +kernel
theorem dX4_watchOf_14 : decode cX4_watchOf 14 = .ok (.iload_n 1, 1) := by decide +kernel
theorem dX4_watchOf_15 : decode cX4_watchOf 15 = .ok (.if_icmp .gt 75, 3) := by decide +kernel
theorem dX4_watchOf_18 : decode cX4_watchOf 18 = .ok (.iload 6, 2) := by decide +kernel
theorem dX4_watchOf_20 : decode cX4_watchOf 20 = .ok (.bipush 16, 2) := by decide +kernel
theorem dX4_watchOf_22 : decode cX4_watchOf 22 = .ok (.if_icmp .ge 68, 3) := by decide +kernel
theorem dX4_watchOf_25 : decode cX4_watchOf 25 = .ok (.iload 4, 2) := by decide +kernel
theorem dX4_watchOf_27 : decode cX4_watchOf 27 = .ok (.iload 6, 2) := by decide +kernel
theorem dX4_watchOf_29 : decode cX4_watchOf 29 = .ok (.invokestatic 28, 3) := by decide +kernel
theorem dX4_watchOf_32 : decode cX4_watchOf 32 = .ok (.ifCond .eq 52, 3) := by decide +kernel
theorem dX4_watchOf_35 : decode cX4_watchOf 35 = .ok (.iload 4, 2) := by decide +kernel
theorem dX4_watchOf_37 : decode cX4_watchOf 37 = .ok (.iconst 1, 1) := by decide +kernel
theorem dX4_watchOf_38 : decode cX4_watchOf 38 = .ok (.iload 6, 2) := by decide +kernel
theorem dX4_watchOf_40 : decode cX4_watchOf 40 = .ok (.ishl, 1) := by decide +kernel
theorem dX4_watchOf_41 : decode cX4_watchOf 41 = .ok (.iconst (-1), 1) := by decide +kernel
theorem dX4_watchOf_42 : decode cX4_watchOf 42 = .ok (.ixor, 1) := by decide +kernel
theorem dX4_watchOf_43 : decode cX4_watchOf 43 = .ok (.iand, 1) := by decide +kernel
theorem dX4_watchOf_44 : decode cX4_watchOf 44 = .ok (.istore 4, 2) := by decide +kernel
theorem dX4_watchOf_46 : decode cX4_watchOf 46 = .ok (.aload_n 0, 1) := by decide +kernel
theorem dX4_watchOf_47 : decode cX4_watchOf 47 = .ok (.iload 6, 2) := by decide +kernel
theorem dX4_watchOf_49 : decode cX4_watchOf 49 = .ok (.iload 4, 2) := by decide +kernel
theorem dX4_watchOf_51 : decode cX4_watchOf 51 = .ok (.iload_n 2, 1) := by decide +kernel
theorem dX4_watchOf_52 : decode cX4_watchOf 52 = .ok (.aload_n 3, 1) := by decide +kernel
theorem dX4_watchOf_53 : decode cX4_watchOf 53 = .ok (.getfield 15, 3) := by decide +kernel
theorem dX4_watchOf_56 : decode cX4_watchOf 56 = .ok (.invokevirtual 32, 3) := by decide +kernel
theorem dX4_watchOf_59 : decode cX4_watchOf 59 = .ok (.istore 5, 2) := by decide +kernel
theorem dX4_watchOf_61 : decode cX4_watchOf 61 = .ok (.aload_n 0, 1) := by decide +kernel
theorem dX4_watchOf_62 : decode cX4_watchOf 62 = .ok (.getfield 9, 3) := by decide +kernel
theorem dX4_watchOf_65 : decode cX4_watchOf 65 = .ok (.iload 5, 2) := by decide +kernel
theorem dX4_watchOf_67 : decode cX4_watchOf 67 = .ok (.aload_n 0, 1) := by decide +kernel
theorem dX4_watchOf_68 : decode cX4_watchOf 68 = .ok (.getfield 9, 3) := by decide +kernel
theorem dX4_watchOf_71 : decode cX4_watchOf 71 = .ok (.iload 5, 2) := by decide +kernel
theorem dX4_watchOf_73 : decode cX4_watchOf 73 = .ok (.invokestatic 36, 3) := by decide +kernel
theorem dX4_watchOf_76 : decode cX4_watchOf 76 = .ok (.iconst 1, 1) := by decide +kernel
theorem dX4_watchOf_77 : decode cX4_watchOf 77 = .ok (.iload 6, 2) := by decide +kernel
theorem dX4_watchOf_79 : decode cX4_watchOf 79 = .ok (.ishl, 1) := by decide +kernel
theorem dX4_watchOf_80 : decode cX4_watchOf 80 = .ok (.ior, 1) := by decide +kernel
theorem dX4_watchOf_81 : decode cX4_watchOf 81 = .ok (.invokestatic 40, 3) := by decide +kernel
theorem dX4_watchOf_84 : decode cX4_watchOf 84 = .ok (.iinc 6 1, 3) := by decide +kernel
theorem dX4_watchOf_87 : decode cX4_watchOf 87 = .ok (.goto (-75), 3) := by decide +kernel
theorem dX4_watchOf_90 : decode cX4_watchOf 90 = .ok (.iload 5, 2) := by decide +kernel
theorem dX4_watchOf_92 : decode cX4_watchOf 92 = .ok (.ireturn, 1) := by decide +kernel
theorem dX4_leastWatch_0 : decode cX4_leastWatch 0 = .ok (.iconst 0, 1) := by decide +kernel
theorem dX4_leastWatch_1 : decode cX4_leastWatch 1 = .ok (.istore 5, 2) := by decide +kernel
theorem dX4_leastWatch_3 : decode cX4_leastWatch 3 = .ok (.iload 5, 2) := by decide +kernel
theorem dX4_leastWatch_5 : decode cX4_leastWatch 5 = .ok (.iload_n 3, 1) := by decide +kernel
theorem dX4_leastWatch_6 : decode cX4_leastWatch 6 = .ok (.if_icmp .ge 79, 3) := by decide +kernel
theorem dX4_leastWatch_9 : decode cX4_leastWatch 9 = .ok (.aload_n 0, 1) := by decide +kernel
theorem dX4_leastWatch_10 : decode cX4_leastWatch 10 = .ok (.getfield 9, 3) := by decide +kernel
theorem dX4_leastWatch_13 : decode cX4_leastWatch 13 = .ok (.iload 5, 2) := by decide +kernel
theorem dX4_leastWatch_15 : decode cX4_leastWatch 15 = .ok (.invokestatic 36, 3) := by decide +kernel
theorem dX4_leastWatch_18 : decode cX4_leastWatch 18 = .ok (.istore 6, 2) := by decide +kernel
theorem dX4_leastWatch_20 : decode cX4_leastWatch 20 = .ok (.iload 6, 2) := by decide +kernel
theorem dX4_leastWatch_22 : decode cX4_leastWatch 22 = .ok (.aload 4, 2) := by decide +kernel
theorem dX4_leastWatch_24 : decode cX4_leastWatch 24 = .ok (.iload_n 1, 1) := by decide +kernel
theorem dX4_leastWatch_25 : decode cX4_leastWatch 25 = .ok (.invokestatic 36, 3) := by decide +kernel
theorem dX4_leastWatch_28 : decode cX4_leastWatch 28 = .ok (.iand, 1) := by decide +kernel
theorem dX4_leastWatch_29 : decode cX4_leastWatch 29 = .ok (.ifCond .ne 50, 3) := by decide +kernel
theorem dX4_leastWatch_32 : decode cX4_leastWatch 32 = .ok (.aload_n 0, 1) := by decide +kernel
theorem dX4_leastWatch_33 : decode cX4_leastWatch 33 = .ok (.getfield 9, 3) := by decide +kernel
theorem dX4_leastWatch_36 : decode cX4_leastWatch 36 = .ok (.iload 5, 2) := by decide +kernel
theorem dX4_leastWatch_38 : decode cX4_leastWatch 38 = .ok (.iload 6, 2) := by decide +kernel
theorem dX4_leastWatch_40 : decode cX4_leastWatch 40 = .ok (.iconst 1, 1) := by decide +kernel
theorem dX4_leastWatch_41 : decode cX4_leastWatch 41 = .ok (.iload_n 1, 1) := by decide +kernel
theorem dX4_leastWatch_42 : decode cX4_leastWatch 42 = .ok (.ishl, 1) := by decide +kernel
theorem dX4_leastWatch_43 : decode cX4_leastWatch 43 = .ok (.ior, 1) := by decide +kernel
theorem dX4_leastWatch_44 : decode cX4_leastWatch 44 = .ok (.invokestatic 40, 3) := by decide +kernel
theorem dX4_leastWatch_47 : decode cX4_leastWatch 47 = .ok (.aload_n 0, 1) := by decide +kernel
theorem dX4_leastWatch_48 : decode cX4_leastWatch 48 = .ok (.getfield 9, 3) := by decide +kernel
theorem dX4_leastWatch_51 : decode cX4_leastWatch 51 = .ok (.aload 4, 2) := by decide +kernel
theorem dX4_leastWatch_53 : decode cX4_leastWatch 53 = .ok (.iload_n 2, 1) := by decide +kernel
theorem dX4_leastWatch_54 : decode cX4_leastWatch 54 = .ok (.iload_n 3, 1) := by decide +kernel
theorem dX4_leastWatch_55 : decode cX4_leastWatch 55 = .ok (.invokestatic 24, 3) := by decide +kernel
theorem dX4_leastWatch_58 : decode cX4_leastWatch 58 = .ok (.istore 7, 2) := by decide +kernel
theorem dX4_leastWatch_60 : decode cX4_leastWatch 60 = .ok (.aload_n 0, 1) := by decide +kernel
theorem dX4_leastWatch_61 : decode cX4_leastWatch 61 = .ok (.getfield 9, 3) := by decide +kernel
theorem dX4_leastWatch_64 : decode cX4_leastWatch 64 = .ok (.iload 5, 2) := by decide +kernel
theorem dX4_leastWatch_66 : decode cX4_leastWatch 66 = .ok (.iload 6, 2) := by decide +kernel
theorem dX4_leastWatch_68 : decode cX4_leastWatch 68 = .ok (.invokestatic 40, 3) := by decide +kernel
theorem dX4_leastWatch_71 : decode cX4_leastWatch 71 = .ok (.iload 7, 2) := by decide +kernel
theorem dX4_leastWatch_73 : decode cX4_leastWatch 73 = .ok (.ifCond .eq 6, 3) := by decide +kernel
theorem dX4_leastWatch_76 : decode cX4_leastWatch 76 = .ok (.iload 5, 2) := by decide +kernel
theorem dX4_leastWatch_78 : decode cX4_leastWatch 78 = .ok (.ireturn, 1) := by decide +kernel
theorem dX4_leastWatch_79 : decode cX4_leastWatch 79 = .ok (.iinc 5 1, 3) := by decide +kernel
theorem dX4_leastWatch_82 : decode cX4_leastWatch 82 = .ok (.goto (-79), 3) := by decide +kernel
theorem dX4_leastWatch_85 : decode cX4_leastWatch 85 = .ok (.iconst (-1), 1) := by decide +kernel
theorem dX4_leastWatch_86 : decode cX4_leastWatch 86 = .ok (.ireturn, 1) := by decide +kernel
theorem dX4_canFill_0 : decode cX4_canFill 0 = .ok (.iload_n 2, 1) := by decide +kernel
theorem dX4_canFill_1 : decode cX4_canFill 1 = .ok (.ifCond .ne 5, 3) := by decide +kernel
theorem dX4_canFill_4 : decode cX4_canFill 4 = .ok (.iconst 1, 1) := by decide +kernel
theorem dX4_canFill_5 : decode cX4_canFill 5 = .ok (.ireturn, 1) := by decide +kernel
theorem dX4_canFill_6 : decode cX4_canFill 6 = .ok (.aload_n 0, 1) := by decide +kernel
theorem dX4_canFill_7 : decode cX4_canFill 7 = .ok (.aload_n 1, 1) := by decide +kernel
theorem dX4_canFill_8 : decode cX4_canFill 8 = .ok (.iload_n 2, 1) := by decide +kernel
theorem dX4_canFill_9 : decode cX4_canFill 9 = .ok (.iload_n 3, 1) := by decide +kernel
theorem dX4_canFill_10 : decode cX4_canFill 10 = .ok (.invokestatic 44, 3) := by decide +kernel
theorem dX4_canFill_13 : decode cX4_canFill 13 = .ok (.istore 4, 2) := by decide +kernel
theorem dX4_canFill_15 : decode cX4_canFill 15 = .ok (.iconst 0, 1) := by decide +kernel
theorem dX4_canFill_16 : decode cX4_canFill 16 = .ok (.istore 5, 2) := by decide +kernel
theorem dX4_canFill_18 : decode cX4_canFill 18 = .ok (.iload 5, 2) := by decide +kernel
theorem dX4_canFill_20 : decode cX4_canFill 20 = .ok (.iload_n 3, 1) := by decide +kernel
theorem dX4_canFill_21 : decode cX4_canFill 21 = .ok (.if_icmp .ge 79, 3) := by decide +kernel
theorem dX4_canFill_24 : decode cX4_canFill 24 = .ok (.aload_n 0, 1) := by decide +kernel
theorem dX4_canFill_25 : decode cX4_canFill 25 = .ok (.iload 5, 2) := by decide +kernel
theorem dX4_canFill_27 : decode cX4_canFill 27 = .ok (.invokestatic 36, 3) := by decide +kernel
theorem dX4_canFill_30 : decode cX4_canFill 30 = .ok (.istore 6, 2) := by decide +kernel
theorem dX4_canFill_32 : decode cX4_canFill 32 = .ok (.iload 6, 2) := by decide +kernel
theorem dX4_canFill_34 : decode cX4_canFill 34 = .ok (.aload_n 1, 1) := by decide +kernel
theorem dX4_canFill_35 : decode cX4_canFill 35 = .ok (.iload 4, 2) := by decide +kernel
theorem dX4_canFill_37 : decode cX4_canFill 37 = .ok (.invokestatic 36, 3) := by decide +kernel
theorem dX4_canFill_40 : decode cX4_canFill 40 = .ok (.iand, 1) := by decide +kernel
theorem dX4_canFill_41 : decode cX4_canFill 41 = .ok (.ifCond .ne 53, 3) := by decide +kernel
theorem dX4_canFill_44 : decode cX4_canFill 44 = .ok (.aload_n 0, 1) := by decide +kernel
theorem dX4_canFill_45 : decode cX4_canFill 45 = .ok (.iload 5, 2) := by decide +kernel
theorem dX4_canFill_47 : decode cX4_canFill 47 = .ok (.iload 6, 2) := by decide +kernel
theorem dX4_canFill_49 : decode cX4_canFill 49 = .ok (.iconst 1, 1) := by decide +kernel
theorem dX4_canFill_50 : decode cX4_canFill 50 = .ok (.iload 4, 2) := by decide +kernel
theorem dX4_canFill_52 : decode cX4_canFill 52 = .ok (.ishl, 1) := by decide +kernel
theorem dX4_canFill_53 : decode cX4_canFill 53 = .ok (.ior, 1) := by decide +kernel
theorem dX4_canFill_54 : decode cX4_canFill 54 = .ok (.invokestatic 40, 3) := by decide +kernel
theorem dX4_canFill_57 : decode cX4_canFill 57 = .ok (.aload_n 0, 1) := by decide +kernel
theorem dX4_canFill_58 : decode cX4_canFill 58 = .ok (.aload_n 1, 1) := by decide +kernel
theorem dX4_canFill_59 : decode cX4_canFill 59 = .ok (.iload_n 2, 1) := by decide +kernel
theorem dX4_canFill_60 : decode cX4_canFill 60 = .ok (.iconst 1, 1) := by decide +kernel
theorem dX4_canFill_61 : decode cX4_canFill 61 = .ok (.iload 4, 2) := by decide +kernel
theorem dX4_canFill_63 : decode cX4_canFill 63 = .ok (.ishl, 1) := by decide +kernel
theorem dX4_canFill_64 : decode cX4_canFill 64 = .ok (.iconst (-1), 1) := by decide +kernel
theorem dX4_canFill_65 : decode cX4_canFill 65 = .ok (.ixor, 1) := by decide +kernel
theorem dX4_canFill_66 : decode cX4_canFill 66 = .ok (.iand, 1) := by decide +kernel
theorem dX4_canFill_67 : decode cX4_canFill 67 = .ok (.iload_n 3, 1) := by decide +kernel
theorem dX4_canFill_68 : decode cX4_canFill 68 = .ok (.invokestatic 24, 3) := by decide +kernel
theorem dX4_canFill_71 : decode cX4_canFill 71 = .ok (.istore 7, 2) := by decide +kernel
theorem dX4_canFill_73 : decode cX4_canFill 73 = .ok (.aload_n 0, 1) := by decide +kernel
theorem dX4_canFill_74 : decode cX4_canFill 74 = .ok (.iload 5, 2) := by decide +kernel
theorem dX4_canFill_76 : decode cX4_canFill 76 = .ok (.iload 6, 2) := by decide +kernel
theorem dX4_canFill_78 : decode cX4_canFill 78 = .ok (.invokestatic 40, 3) := by decide +kernel
theorem dX4_canFill_81 : decode cX4_canFill 81 = .ok (.iload 7, 2) := by decide +kernel
theorem dX4_canFill_83 : decode cX4_canFill 83 = .ok (.ifCond .ne 8, 3) := by decide +kernel
theorem dX4_canFill_86 : decode cX4_canFill 86 = .ok (.iload 6, 2) := by decide +kernel
theorem dX4_canFill_88 : decode cX4_canFill 88 = .ok (.ifCond .ne 6, 3) := by decide +kernel
theorem dX4_canFill_91 : decode cX4_canFill 91 = .ok (.iload 7, 2) := by decide +kernel
theorem dX4_canFill_93 : decode cX4_canFill 93 = .ok (.ireturn, 1) := by decide +kernel
theorem dX4_canFill_94 : decode cX4_canFill 94 = .ok (.iinc 5 1, 3) := by decide +kernel
theorem dX4_canFill_97 : decode cX4_canFill 97 = .ok (.goto (-79), 3) := by decide +kernel
theorem dX4_canFill_100 : decode cX4_canFill 100 = .ok (.iconst 0, 1) := by decide +kernel
theorem dX4_canFill_101 : decode cX4_canFill 101 = .ok (.ireturn, 1) := by decide +kernel
theorem dX4_tightest_0 : decode cX4_tightest 0 = .ok (.iload_n 2, 1) := by decide +kernel
theorem dX4_tightest_1 : decode cX4_tightest 1 = .ok (.invokestatic 48, 3) := by decide +kernel
theorem dX4_tightest_4 : decode cX4_tightest 4 = .ok (.istore 4, 2) := by decide +kernel
theorem dX4_tightest_6 : decode cX4_tightest 6 = .ok (.bipush 17, 2) := by decide +kernel
theorem dX4_tightest_8 : decode cX4_tightest 8 = .ok (.istore 5, 2) := by decide +kernel
theorem dX4_tightest_10 : decode cX4_tightest 10 = .ok (.iconst 0, 1) := by decide +kernel
theorem dX4_tightest_11 : decode cX4_tightest 11 = .ok (.istore 6, 2) := by decide +kernel
theorem dX4_tightest_13 : decode cX4_tightest 13 = .ok (.iload 6, 2) := by decide +kernel
theorem dX4_tightest_15 : decode cX4_tightest 15 = .ok (.bipush 16, 2) := by decide +kernel
theorem dX4_tightest_17 : decode cX4_tightest 17 = .ok (.if_icmp .ge 46, 3) := by decide +kernel
theorem dX4_tightest_20 : decode cX4_tightest 20 = .ok (.iload_n 2, 1) := by decide +kernel
theorem dX4_tightest_21 : decode cX4_tightest 21 = .ok (.iload 6, 2) := by decide +kernel
theorem dX4_tightest_23 : decode cX4_tightest 23 = .ok (.invokestatic 28, 3) := by decide +kernel
theorem dX4_tightest_26 : decode cX4_tightest 26 = .ok (.ifCond .eq 31, 3) := by decide +kernel
theorem dX4_tightest_29 : decode cX4_tightest 29 = .ok (.aload_n 0, 1) := by decide +kernel
theorem dX4_tightest_30 : decode cX4_tightest 30 = .ok (.aload_n 1, 1) := by decide +kernel
theorem dX4_tightest_31 : decode cX4_tightest 31 = .ok (.iload 6, 2) := by decide +kernel
theorem dX4_tightest_33 : decode cX4_tightest 33 = .ok (.invokestatic 36, 3) := by decide +kernel
theorem dX4_tightest_36 : decode cX4_tightest 36 = .ok (.iload_n 3, 1) := by decide +kernel
theorem dX4_tightest_37 : decode cX4_tightest 37 = .ok (.invokestatic 52, 3) := by decide +kernel
theorem dX4_tightest_40 : decode cX4_tightest 40 = .ok (.istore 7, 2) := by decide +kernel
theorem dX4_tightest_42 : decode cX4_tightest 42 = .ok (.iload 7, 2) := by decide +kernel
theorem dX4_tightest_44 : decode cX4_tightest 44 = .ok (.iload 5, 2) := by decide +kernel
theorem dX4_tightest_46 : decode cX4_tightest 46 = .ok (.if_icmp .ge 11, 3) := by decide +kernel
theorem dX4_tightest_49 : decode cX4_tightest 49 = .ok (.iload 7, 2) := by decide +kernel
theorem dX4_tightest_51 : decode cX4_tightest 51 = .ok (.istore 5, 2) := by decide +kernel
theorem dX4_tightest_53 : decode cX4_tightest 53 = .ok (.iload 6, 2) := by decide +kernel
theorem dX4_tightest_55 : decode cX4_tightest 55 = .ok (.istore 4, 2) := by decide +kernel
theorem dX4_tightest_57 : decode cX4_tightest 57 = .ok (.iinc 6 1, 3) := by decide +kernel
theorem dX4_tightest_60 : decode cX4_tightest 60 = .ok (.goto (-47), 3) := by decide +kernel
theorem dX4_tightest_63 : decode cX4_tightest 63 = .ok (.iload 4, 2) := by decide +kernel
theorem dX4_tightest_65 : decode cX4_tightest 65 = .ok (.ireturn, 1) := by decide +kernel
theorem dX4_freeWatches_0 : decode cX4_freeWatches 0 = .ok (.iconst 0, 1) := by decide +kernel
theorem dX4_freeWatches_1 : decode cX4_freeWatches 1 = .ok (.istore_n 3, 1) := by decide +kernel
theorem dX4_freeWatches_2 : decode cX4_freeWatches 2 = .ok (.iconst 0, 1) := by decide +kernel
theorem dX4_freeWatches_3 : decode cX4_freeWatches 3 = .ok (.istore 4, 2) := by decide +kernel
theorem dX4_freeWatches_5 : decode cX4_freeWatches 5 = .ok (.iload 4, 2) := by decide +kernel
theorem dX4_freeWatches_7 : decode cX4_freeWatches 7 = .ok (.iload_n 2, 1) := by decide +kernel
theorem dX4_freeWatches_8 : decode cX4_freeWatches 8 = .ok (.if_icmp .ge 23, 3) := by decide +kernel
theorem dX4_freeWatches_11 : decode cX4_freeWatches 11 = .ok (.aload_n 0, 1) := by decide +kernel
theorem dX4_freeWatches_12 : decode cX4_freeWatches 12 = .ok (.iload 4, 2) := by decide +kernel
theorem dX4_freeWatches_14 : decode cX4_freeWatches 14 = .ok (.invokestatic 36, 3) := by decide +kernel
theorem dX4_freeWatches_17 : decode cX4_freeWatches 17 = .ok (.iload_n 1, 1) := by decide +kernel
theorem dX4_freeWatches_18 : decode cX4_freeWatches 18 = .ok (.iand, 1) := by decide +kernel
theorem dX4_freeWatches_19 : decode cX4_freeWatches 19 = .ok (.ifCond .ne 6, 3) := by decide +kernel
theorem dX4_freeWatches_22 : decode cX4_freeWatches 22 = .ok (.iinc 3 1, 3) := by decide +kernel
theorem dX4_freeWatches_25 : decode cX4_freeWatches 25 = .ok (.iinc 4 1, 3) := by decide +kernel
theorem dX4_freeWatches_28 : decode cX4_freeWatches 28 = .ok (.goto (-23), 3) := by decide +kernel
theorem dX4_freeWatches_31 : decode cX4_freeWatches 31 = .ok (.iload_n 3, 1) := by decide +kernel
theorem dX4_freeWatches_32 : decode cX4_freeWatches 32 = .ok (.ireturn, 1) := by decide +kernel
theorem dX5_init_0 : decode cX5_init 0 = .ok (.aload_n 0, 1) := by decide +kernel
theorem dX5_init_1 : decode cX5_init 1 = .ok (.invokespecial 3, 3) := by decide +kernel
theorem dX5_init_4 : decode cX5_init 4 = .ok (.aload_n 0, 1) := by decide +kernel
theorem dX5_init_5 : decode cX5_init 5 = .ok (.bipush 16, 2) := by decide +kernel
theorem dX5_init_7 : decode cX5_init 7 = .ok (.newarray .int, 2) := by decide +kernel
theorem dX5_init_9 : decode cX5_init 9 = .ok (.putfield 9, 3) := by decide +kernel
theorem dX5_init_12 : decode cX5_init 12 = .ok (.aload_n 0, 1) := by decide +kernel
theorem dX5_init_13 : decode cX5_init 13 = .ok (.bipush 8, 2) := by decide +kernel
theorem dX5_init_15 : decode cX5_init 15 = .ok (.newarray .int, 2) := by decide +kernel
theorem dX5_init_17 : decode cX5_init 17 = .ok (.putfield 17, 3) := by decide +kernel
theorem dX5_init_20 : decode cX5_init 20 = .ok (.aload_n 0, 1) := by decide +kernel
theorem dX5_init_21 : decode cX5_init 21 = .ok (.iconst 0, 1) := by decide +kernel
theorem dX5_init_22 : decode cX5_init 22 = .ok (.putfield 20, 3) := by decide +kernel
theorem dX5_init_25 : decode cX5_init 25 = .ok (.aload_n 0, 1) := by decide +kernel
theorem dX5_init_26 : decode cX5_init 26 = .ok (.iconst 0, 1) := by decide +kernel
theorem dX5_init_27 : decode cX5_init 27 = .ok (.putfield 24, 3) := by decide +kernel
theorem dX5_init_30 : decode cX5_init 30 = .ok (.return_, 1) := by decide +kernel
theorem dX5_passes_0 : decode cX5_passes 0 = .ok (.aload_n 0, 1) := by decide +kernel
theorem dX5_passes_1 : decode cX5_passes 1 = .ok (.iconst 0, 1) := by decide +kernel
theorem dX5_passes_2 : decode cX5_passes 2 = .ok (.putfield 20, 3) := by decide +kernel
theorem dX5_passes_5 : decode cX5_passes 5 = .ok (.aload_n 0, 1) := by decide +kernel
theorem dX5_passes_6 : decode cX5_passes 6 = .ok (.iconst 0, 1) := by decide +kernel
theorem dX5_passes_7 : decode cX5_passes 7 = .ok (.putfield 24, 3) := by decide +kernel
theorem dX5_passes_10 : decode cX5_passes 10 = .ok (.aload_n 1, 1) := by decide +kernel
theorem dX5_passes_11 : decode cX5_passes 11 = .ok (.getfield 27, 3) := by decide +kernel
theorem dX5_passes_14 : decode cX5_passes 14 = .ok (.sipush 9999, 3) := by decide +kernel
theorem dX5_passes_17 : decode cX5_passes 17 = .ok (.if_icmp .lt 5, 3) := by decide +kernel
theorem dX5_passes_20 : decode cX5_passes 20 = .ok (.iconst 0, 1) := by decide +kernel
theorem dX5_passes_21 : decode cX5_passes 21 = .ok (.ireturn, 1) := by decide +kernel
theorem dX5_passes_22 : decode cX5_passes 22 = .ok (.aload_n 1, 1) := by decide +kernel
theorem dX5_passes_23 : decode cX5_passes 23 = .ok (.aload_n 3, 1) := by decide +kernel
theorem dX5_passes_24 : decode cX5_passes 24 = .ok (.aload 4, 2) := by decide +kernel
theorem dX5_passes_26 : decode cX5_passes 26 = .ok (.invokestatic 32, 3) := by decide +kernel
theorem dX5_passes_29 : decode cX5_passes 29 = .ok (.aload_n 0, 1) := by decide +kernel
theorem dX5_passes_30 : decode cX5_passes 30 = .ok (.aload_n 1, 1) := by decide +kernel
theorem dX5_passes_31 : decode cX5_passes 31 = .ok (.aload_n 3, 1) := by decide +kernel
theorem dX5_passes_32 : decode cX5_passes 32 = .ok (.invokevirtual 36, 3) := by decide +kernel
theorem dX5_passes_35 : decode cX5_passes 35 = .ok (.iconst 0, 1) := by decide +kernel
theorem dX5_passes_36 : decode cX5_passes 36 = .ok (.istore 5, 2) := by decide +kernel
theorem dX5_passes_38 : decode cX5_passes 38 = .ok (.iload 5, 2) := by decide +kernel
theorem dX5_passes_40 : decode cX5_passes 40 = .ok (.bipush 16, 2) := by decide +kernel
theorem dX5_passes_42 : decode cX5_passes 42 = .ok (.if_icmp .ge 42, 3) := by decide +kernel
theorem dX5_passes_45 : decode cX5_passes 45 = .ok (.aload_n 3, 1) := by decide +kernel
theorem dX5_passes_46 : decode cX5_passes 46 = .ok (.iload 5, 2) := by decide +kernel
theorem dX5_passes_48 : decode cX5_passes 48 = .ok (.invokevirtual 40, 3) := by decide +kernel
theorem dX5_passes_51 : decode cX5_passes 51 = .ok (.ifCond .eq 27, 3) := by decide +kernel
theorem dX5_passes_54 : decode cX5_passes 54 = .ok (.aload_n 0, 1) := by decide +kernel
theorem dX5_passes_55 : decode cX5_passes 55 = .ok (.aload_n 1, 1) := by decide +kernel
theorem dX5_passes_56 : decode cX5_passes 56 = .ok (.iload 5, 2) := by decide +kernel
theorem dX5_passes_58 : decode cX5_passes 58 = .ok (.aload_n 3, 1) := by decide +kernel
theorem dX5_passes_59 : decode cX5_passes 59 = .ok (.getfield 46, 3) := by decide +kernel
theorem dX5_passes_62 : decode cX5_passes 62 = .ok (.iload 5, 2) := by decide +kernel
theorem dX5_passes_64 : decode cX5_passes 64 = .ok (.invokestatic 49, 3) := by decide +kernel
theorem dX5_passes_67 : decode cX5_passes 67 = .ok (.invokevirtual 53, 3) := by decide +kernel
theorem dX5_passes_70 : decode cX5_passes 70 = .ok (.aload_n 0, 1) := by decide +kernel
theorem dX5_passes_71 : decode cX5_passes 71 = .ok (.aload_n 1, 1) := by decide +kernel
theorem dX5_passes_72 : decode cX5_passes 72 = .ok (.aload_n 2, 1) := by decide +kernel
theorem dX5_passes_73 : decode cX5_passes 73 = .ok (.iload 5, 2) := by decide +kernel
theorem dX5_passes_75 : decode cX5_passes 75 = .ok (.invokevirtual 57, 3) := by decide +kernel
theorem dX5_passes_78 : decode cX5_passes 78 = .ok (.iinc 5 1, 3) := by decide +kernel
theorem dX5_passes_81 : decode cX5_passes 81 = .ok (.goto (-43), 3) := by decide +kernel
theorem dX5_passes_84 : decode cX5_passes 84 = .ok (.aload_n 1, 1) := by decide +kernel
theorem dX5_passes_85 : decode cX5_passes 85 = .ok (.dup, 1) := by decide +kernel
theorem dX5_passes_86 : decode cX5_passes 86 = .ok (.getfield 27, 3) := by decide +kernel
theorem dX5_passes_89 : decode cX5_passes 89 = .ok (.iconst 1, 1) := by decide +kernel
theorem dX5_passes_90 : decode cX5_passes 90 = .ok (.iadd, 1) := by decide +kernel
theorem dX5_passes_91 : decode cX5_passes 91 = .ok (.putfield 27, 3) := by decide +kernel
theorem dX5_passes_94 : decode cX5_passes 94 = .ok (.iconst 1, 1) := by decide +kernel
theorem dX5_passes_95 : decode cX5_passes 95 = .ok (.ireturn, 1) := by decide +kernel
theorem dX5_walk_0 : decode cX5_walk 0 = .ok (.iconst 0, 1) := by decide +kernel
theorem dX5_walk_1 : decode cX5_walk 1 = .ok (.istore_n 3, 1) := by decide +kernel
theorem dX5_walk_2 : decode cX5_walk 2 = .ok (.iload_n 3, 1) := by decide +kernel
theorem dX5_walk_3 : decode cX5_walk 3 = .ok (.aload_n 2, 1) := by decide +kernel
theorem dX5_walk_4 : decode cX5_walk 4 = .ok (.arraylength, 1) := by decide +kernel
theorem dX5_walk_5 : decode cX5_walk 5 = .ok (.if_icmp .ge 80, 3) := by decide +kernel
theorem dX5_walk_8 : decode cX5_walk 8 = .ok (.aload_n 2, 1) := by decide +kernel
theorem dX5_walk_9 : decode cX5_walk 9 = .ok (.iload_n 3, 1) := by decide +kernel
theorem dX5_walk_10 : decode cX5_walk 10 = .ok (.aaload, 1) := by decide +kernel
theorem dX5_walk_11 : decode cX5_walk 11 = .ok (.astore 4, 2) := by decide +kernel
theorem dX5_walk_13 : decode cX5_walk 13 = .ok (.aload 4, 2) := by decide +kernel
theorem dX5_walk_15 : decode cX5_walk 15 = .ok (.ifnull 64, 3) := by decide +kernel
theorem dX5_walk_18 : decode cX5_walk 18 = .ok (.aload_n 0, 1) := by decide +kernel
theorem dX5_walk_19 : decode cX5_walk 19 = .ok (.iload_n 3, 1) := by decide +kernel
theorem dX5_walk_20 : decode cX5_walk 20 = .ok (.invokevirtual 61, 3) := by decide +kernel
theorem dX5_walk_23 : decode cX5_walk 23 = .ok (.ifCond .eq 56, 3) := by decide +kernel
theorem dX5_walk_26 : decode cX5_walk 26 = .ok (.aload 4, 2) := by decide +kernel
theorem dX5_walk_28 : decode cX5_walk 28 = .ok (.aload_n 0, 1) := by decide +kernel
theorem dX5_walk_29 : decode cX5_walk 29 = .ok (.getfield 27, 3) := by decide +kernel
theorem dX5_walk_32 : decode cX5_walk 32 = .ok (.invokevirtual 62, 3) := by decide +kernel
theorem dX5_walk_35 : decode cX5_walk 35 = .ok (.istore 5, 2) := by decide +kernel
theorem dX5_walk_37 : decode cX5_walk 37 = .ok (.aload_n 1, 1) := by decide +kernel
theorem dX5_walk_38 : decode cX5_walk 38 = .ok (.iload 5, 2) := by decide +kernel
theorem dX5_walk_40 : decode cX5_walk 40 = .ok (.invokevirtual 40, 3) := by decide +kernel
theorem dX5_walk_43 : decode cX5_walk 43 = .ok (.ifCond .eq 36, 3) := by decide +kernel
theorem dX5_walk_46 : decode cX5_walk 46 = .ok (.aload_n 1, 1) := by decide +kernel
theorem dX5_walk_47 : decode cX5_walk 47 = .ok (.getfield 46, 3) := by decide +kernel
theorem dX5_walk_50 : decode cX5_walk 50 = .ok (.aload_n 0, 1) := by decide +kernel
theorem dX5_walk_51 : decode cX5_walk 51 = .ok (.getfield 68, 3) := by decide +kernel
theorem dX5_walk_54 : decode cX5_walk 54 = .ok (.iload_n 3, 1) := by decide +kernel
theorem dX5_walk_55 : decode cX5_walk 55 = .ok (.invokestatic 49, 3) := by decide +kernel
theorem dX5_walk_58 : decode cX5_walk 58 = .ok (.invokestatic 49, 3) := by decide +kernel
theorem dX5_walk_61 : decode cX5_walk 61 = .ok (.iload 5, 2) := by decide +kernel
theorem dX5_walk_63 : decode cX5_walk 63 = .ok (.invokestatic 71, 3) := by decide +kernel
theorem dX5_walk_66 : decode cX5_walk 66 = .ok (.ifCond .eq 13, 3) := by decide +kernel
theorem dX5_walk_69 : decode cX5_walk 69 = .ok (.aload_n 0, 1) := by decide +kernel
theorem dX5_walk_70 : decode cX5_walk 70 = .ok (.getfield 68, 3) := by decide +kernel
theorem dX5_walk_73 : decode cX5_walk 73 = .ok (.iload_n 3, 1) := by decide +kernel
theorem dX5_walk_74 : decode cX5_walk 74 = .ok (.iload 5, 2) := by decide +kernel
theorem dX5_walk_76 : decode cX5_walk 76 = .ok (.invokestatic 75, 3) := by decide +kernel
theorem dX5_walk_79 : decode cX5_walk 79 = .ok (.iinc 3 1, 3) := by decide +kernel
theorem dX5_walk_82 : decode cX5_walk 82 = .ok (.goto (-80), 3) := by decide +kernel
theorem dX5_walk_85 : decode cX5_walk 85 = .ok (.return_, 1) := by decide +kernel
theorem dX5_lookAround_0 : decode cX5_lookAround 0 = .ok (.iconst 0, 1) := by decide +kernel
theorem dX5_lookAround_1 : decode cX5_lookAround 1 = .ok (.istore_n 3, 1) := by decide +kernel
theorem dX5_lookAround_2 : decode cX5_lookAround 2 = .ok (.iload_n 3, 1) := by decide +kernel
theorem dX5_lookAround_3 : decode cX5_lookAround 3 = .ok (.aload_n 0, 1) := by decide +kernel
theorem dX5_lookAround_4 : decode cX5_lookAround 4 = .ok (.getfield 9, 3) := by decide +kernel
theorem dX5_lookAround_7 : decode cX5_lookAround 7 = .ok (.arraylength, 1) := by decide +kernel
theorem dX5_lookAround_8 : decode cX5_lookAround 8 = .ok (.if_icmp .ge 16, 3) := by decide +kernel
theorem dX5_lookAround_11 : decode cX5_lookAround 11 = .ok (.aload_n 0, 1) := by decide +kernel
theorem dX5_lookAround_12 : decode cX5_lookAround 12 = .ok (.getfield 9, 3) := by decide +kernel
theorem dX5_lookAround_15 : decode cX5_lookAround 15 = .ok (.iload_n 3, 1) := by decide +kernel
theorem dX5_lookAround_16 : decode cX5_lookAround 16 = .ok (.iconst 0, 1) := by decide +kernel
theorem dX5_lookAround_17 : decode cX5_lookAround 17 = .ok (.iastore, 1) := by decide +kernel
theorem dX5_lookAround_18 : decode cX5_lookAround 18 = .ok (.iinc 3 1, 3) := by decide +kernel
theorem dX5_lookAround_21 : decode cX5_lookAround 21 = .ok (.goto (-19), 3) := by decide +kernel
theorem dX5_lookAround_24 : decode cX5_lookAround 24 = .ok (.iconst 0, 1) := by decide +kernel
theorem dX5_lookAround_25 : decode cX5_lookAround 25 = .ok (.istore_n 3, 1) := by decide +kernel
theorem dX5_lookAround_26 : decode cX5_lookAround 26 = .ok (.iload_n 3, 1) := by decide +kernel
theorem dX5_lookAround_27 : decode cX5_lookAround 27 = .ok (.bipush 8, 2) := by decide +kernel
theorem dX5_lookAround_29 : decode cX5_lookAround 29 = .ok (.if_icmp .ge 47, 3) := by decide +kernel
theorem dX5_lookAround_32 : decode cX5_lookAround 32 = .ok (.aload_n 1, 1) := by decide +kernel
theorem dX5_lookAround_33 : decode cX5_lookAround 33 = .ok (.iload_n 3, 1) := by decide +kernel
theorem dX5_lookAround_34 : decode cX5_lookAround 34 = .ok (.invokevirtual 61, 3) := by decide +kernel
theorem dX5_lookAround_37 : decode cX5_lookAround 37 = .ok (.ifCond .eq 33, 3) := by decide +kernel
theorem dX5_lookAround_40 : decode cX5_lookAround 40 = .ok (.aload_n 1, 1) := by decide +kernel
theorem dX5_lookAround_41 : decode cX5_lookAround 41 = .ok (.getfield 68, 3) := by decide +kernel
theorem dX5_lookAround_44 : decode cX5_lookAround 44 = .ok (.iload_n 3, 1) := by decide +kernel
theorem dX5_lookAround_45 : decode cX5_lookAround 45 = .ok (.invokestatic 49, 3) := by decide +kernel
theorem dX5_lookAround_48 : decode cX5_lookAround 48 = .ok (.istore 4, 2) := by decide +kernel
theorem dX5_lookAround_50 : decode cX5_lookAround 50 = .ok (.aload_n 0, 1) := by decide +kernel
theorem dX5_lookAround_51 : decode cX5_lookAround 51 = .ok (.getfield 9, 3) := by decide +kernel
theorem dX5_lookAround_54 : decode cX5_lookAround 54 = .ok (.iload 4, 2) := by decide +kernel
theorem dX5_lookAround_56 : decode cX5_lookAround 56 = .ok (.aload_n 0, 1) := by decide +kernel
theorem dX5_lookAround_57 : decode cX5_lookAround 57 = .ok (.getfield 9, 3) := by decide +kernel
theorem dX5_lookAround_60 : decode cX5_lookAround 60 = .ok (.iload 4, 2) := by decide +kernel
theorem dX5_lookAround_62 : decode cX5_lookAround 62 = .ok (.invokestatic 49, 3) := by decide +kernel
theorem dX5_lookAround_65 : decode cX5_lookAround 65 = .ok (.iconst 1, 1) := by decide +kernel
theorem dX5_lookAround_66 : decode cX5_lookAround 66 = .ok (.iadd, 1) := by decide +kernel
theorem dX5_lookAround_67 : decode cX5_lookAround 67 = .ok (.invokestatic 75, 3) := by decide +kernel
theorem dX5_lookAround_70 : decode cX5_lookAround 70 = .ok (.iinc 3 1, 3) := by decide +kernel
theorem dX5_lookAround_73 : decode cX5_lookAround 73 = .ok (.goto (-47), 3) := by decide +kernel
theorem dX5_lookAround_76 : decode cX5_lookAround 76 = .ok (.iconst 0, 1) := by decide +kernel
theorem dX5_lookAround_77 : decode cX5_lookAround 77 = .ok (.istore_n 3, 1) := by decide +kernel
theorem dX5_lookAround_78 : decode cX5_lookAround 78 = .ok (.iload_n 3, 1) := by decide +kernel
theorem dX5_lookAround_79 : decode cX5_lookAround 79 = .ok (.bipush 16, 2) := by decide +kernel
theorem dX5_lookAround_81 : decode cX5_lookAround 81 = .ok (.if_icmp .ge 59, 3) := by decide +kernel
theorem dX5_lookAround_84 : decode cX5_lookAround 84 = .ok (.aload_n 2, 1) := by decide +kernel
theorem dX5_lookAround_85 : decode cX5_lookAround 85 = .ok (.iload_n 3, 1) := by decide +kernel
theorem dX5_lookAround_86 : decode cX5_lookAround 86 = .ok (.invokevirtual 40, 3) := by decide +kernel
theorem dX5_lookAround_89 : decode cX5_lookAround 89 = .ok (.ifCond .eq 45, 3) := by decide +kernel
theorem dX5_lookAround_92 : decode cX5_lookAround 92 = .ok (.aload_n 1, 1) := by decide +kernel
theorem dX5_lookAround_93 : decode cX5_lookAround 93 = .ok (.getfield 79, 3) := by decide +kernel
theorem dX5_lookAround_96 : decode cX5_lookAround 96 = .ok (.iload_n 3, 1) := by decide +kernel
theorem dX5_lookAround_97 : decode cX5_lookAround 97 = .ok (.invokestatic 49, 3) := by decide +kernel
theorem dX5_lookAround_100 : decode cX5_lookAround 100 = .ok (.iconst 1, 1) := by decide +kernel
theorem dX5_lookAround_101 : decode cX5_lookAround 101 = .ok (.iadd, 1) := by decide +kernel
theorem dX5_lookAround_102 : decode cX5_lookAround 102 = .ok (.bipush 99, 2) := by decide +kernel
theorem dX5_lookAround_104 : decode cX5_lookAround 104 = .ok (.invokestatic 82, 3) := by decide +kernel
theorem dX5_lookAround_107 : decode cX5_lookAround 107 = .ok (.istore 4, 2) := by decide +kernel
theorem dX5_lookAround_109 : decode cX5_lookAround 109 = .ok (.aload_n 1, 1) := by decide +kernel
theorem dX5_lookAround_110 : decode cX5_lookAround 110 = .ok (.getfield 79, 3) := by decide +kernel
theorem dX5_lookAround_113 : decode cX5_lookAround 113 = .ok (.iload_n 3, 1) := by decide +kernel
theorem dX5_lookAround_114 : decode cX5_lookAround 114 = .ok (.aload_n 0, 1) := by decide +kernel
theorem dX5_lookAround_115 : decode cX5_lookAround 115 = .ok (.getfield 9, 3) := by decide +kernel
theorem dX5_lookAround_118 : decode cX5_lookAround 118 = .ok (.iload_n 3, 1) := by decide +kernel
theorem dX5_lookAround_119 : decode cX5_lookAround 119 = .ok (.invokestatic 49, 3) := by decide +kernel
theorem dX5_lookAround_122 : decode cX5_lookAround 122 = .ok (.ifCond .le 7, 3) := by decide +kernel
theorem dX5_lookAround_125 : decode cX5_lookAround 125 = .ok (.iconst 0, 1) := by decide +kernel
theorem dX5_lookAround_126 : decode cX5_lookAround 126 = .ok (.goto 5, 3) := by decide +kernel
theorem dX5_lookAround_129 : decode cX5_lookAround 129 = .ok (.iload 4, 2) := by decide +kernel
theorem dX5_lookAround_131 : decode cX5_lookAround 131 = .ok (.invokestatic 75, 3) := by decide +kernel
theorem dX5_lookAround_134 : decode cX5_lookAround 134 = .ok (.iinc 3 1, 3) := by decide +kernel
theorem dX5_lookAround_137 : decode cX5_lookAround 137 = .ok (.goto (-59), 3) := by decide +kernel
theorem dX5_lookAround_140 : decode cX5_lookAround 140 = .ok (.return_, 1) := by decide +kernel
theorem dX5_know_0 : decode cX5_know 0 = .ok (.aload_n 0, 1) := by decide +kernel
theorem dX5_know_1 : decode cX5_know 1 = .ok (.getfield 17, 3) := by decide +kernel
theorem dX5_know_4 : decode cX5_know 4 = .ok (.iconst 0, 1) := by decide +kernel
theorem dX5_know_5 : decode cX5_know 5 = .ok (.iload_n 2, 1) := by decide +kernel
theorem dX5_know_6 : decode cX5_know 6 = .ok (.invokestatic 75, 3) := by decide +kernel
theorem dX5_know_9 : decode cX5_know 9 = .ok (.aload_n 0, 1) := by decide +kernel
theorem dX5_know_10 : decode cX5_know 10 = .ok (.getfield 17, 3) := by decide +kernel
theorem dX5_know_13 : decode cX5_know 13 = .ok (.iconst 1, 1) := by decide +kernel
theorem dX5_know_14 : decode cX5_know 14 = .ok (.aload_n 1, 1) := by decide +kernel
theorem dX5_know_15 : decode cX5_know 15 = .ok (.getfield 88, 3) := by decide +kernel
theorem dX5_know_18 : decode cX5_know 18 = .ok (.iload_n 2, 1) := by decide +kernel
theorem dX5_know_19 : decode cX5_know 19 = .ok (.invokestatic 49, 3) := by decide +kernel
theorem dX5_know_22 : decode cX5_know 22 = .ok (.invokestatic 75, 3) := by decide +kernel
theorem dX5_know_25 : decode cX5_know 25 = .ok (.aload_n 0, 1) := by decide +kernel
theorem dX5_know_26 : decode cX5_know 26 = .ok (.getfield 17, 3) := by decide +kernel
theorem dX5_know_29 : decode cX5_know 29 = .ok (.iconst 2, 1) := by decide +kernel
theorem dX5_know_30 : decode cX5_know 30 = .ok (.aload_n 1, 1) := by decide +kernel
theorem dX5_know_31 : decode cX5_know 31 = .ok (.getfield 91, 3) := by decide +kernel
theorem dX5_know_34 : decode cX5_know 34 = .ok (.iload_n 2, 1) := by decide +kernel
theorem dX5_know_35 : decode cX5_know 35 = .ok (.invokestatic 49, 3) := by decide +kernel
theorem dX5_know_38 : decode cX5_know 38 = .ok (.invokestatic 75, 3) := by decide +kernel
theorem dX5_know_41 : decode cX5_know 41 = .ok (.aload_n 0, 1) := by decide +kernel
theorem dX5_know_42 : decode cX5_know 42 = .ok (.getfield 17, 3) := by decide +kernel
theorem dX5_know_45 : decode cX5_know 45 = .ok (.iconst 3, 1) := by decide +kernel
theorem dX5_know_46 : decode cX5_know 46 = .ok (.aload_n 0, 1) := by decide +kernel
theorem dX5_know_47 : decode cX5_know 47 = .ok (.getfield 9, 3) := by decide +kernel
theorem dX5_know_50 : decode cX5_know 50 = .ok (.iload_n 2, 1) := by decide +kernel
theorem dX5_know_51 : decode cX5_know 51 = .ok (.invokestatic 49, 3) := by decide +kernel
theorem dX5_know_54 : decode cX5_know 54 = .ok (.invokestatic 75, 3) := by decide +kernel
theorem dX5_know_57 : decode cX5_know 57 = .ok (.aload_n 0, 1) := by decide +kernel
theorem dX5_know_58 : decode cX5_know 58 = .ok (.getfield 17, 3) := by decide +kernel
theorem dX5_know_61 : decode cX5_know 61 = .ok (.iconst 4, 1) := by decide +kernel
theorem dX5_know_62 : decode cX5_know 62 = .ok (.aload_n 0, 1) := by decide +kernel
theorem dX5_know_63 : decode cX5_know 63 = .ok (.getfield 9, 3) := by decide +kernel
theorem dX5_know_66 : decode cX5_know 66 = .ok (.iload_n 3, 1) := by decide +kernel
theorem dX5_know_67 : decode cX5_know 67 = .ok (.invokestatic 94, 3) := by decide +kernel
theorem dX5_know_70 : decode cX5_know 70 = .ok (.invokestatic 75, 3) := by decide +kernel
theorem dX5_know_73 : decode cX5_know 73 = .ok (.aload_n 0, 1) := by decide +kernel
theorem dX5_know_74 : decode cX5_know 74 = .ok (.getfield 17, 3) := by decide +kernel
theorem dX5_know_77 : decode cX5_know 77 = .ok (.iconst 5, 1) := by decide +kernel
theorem dX5_know_78 : decode cX5_know 78 = .ok (.aload_n 1, 1) := by decide +kernel
theorem dX5_know_79 : decode cX5_know 79 = .ok (.getfield 79, 3) := by decide +kernel
theorem dX5_know_82 : decode cX5_know 82 = .ok (.iload_n 2, 1) := by decide +kernel
theorem dX5_know_83 : decode cX5_know 83 = .ok (.invokestatic 49, 3) := by decide +kernel
theorem dX5_know_86 : decode cX5_know 86 = .ok (.invokestatic 75, 3) := by decide +kernel
theorem dX5_know_89 : decode cX5_know 89 = .ok (.aload_n 0, 1) := by decide +kernel
theorem dX5_know_90 : decode cX5_know 90 = .ok (.getfield 17, 3) := by decide +kernel
theorem dX5_know_93 : decode cX5_know 93 = .ok (.bipush 6, 2) := by decide +kernel
theorem dX5_know_95 : decode cX5_know 95 = .ok (.aload_n 1, 1) := by decide +kernel
theorem dX5_know_96 : decode cX5_know 96 = .ok (.getfield 27, 3) := by decide +kernel
theorem dX5_know_99 : decode cX5_know 99 = .ok (.bipush 24, 2) := by decide +kernel
theorem dX5_know_101 : decode cX5_know 101 = .ok (.irem, 1) := by decide +kernel
theorem dX5_know_102 : decode cX5_know 102 = .ok (.invokestatic 75, 3) := by decide +kernel
theorem dX5_know_105 : decode cX5_know 105 = .ok (.aload_n 0, 1) := by decide +kernel
