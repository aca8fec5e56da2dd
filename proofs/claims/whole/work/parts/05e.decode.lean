theorem dX10_way_50 : decode cX10_way 50 = .ok (.if_icmp .ne 6, 3) := by decide +kernel
theorem dX10_way_53 : decode cX10_way 53 = .ok (.bipush (-2), 2) := by decide +kernel
theorem dX10_way_55 : decode cX10_way 55 = .ok (.ireturn, 1) := by decide +kernel
theorem dX10_way_56 : decode cX10_way 56 = .ok (.iload_n 3, 1) := by decide +kernel
theorem dX10_way_57 : decode cX10_way 57 = .ok (.bipush 100, 2) := by decide +kernel
theorem dX10_way_59 : decode cX10_way 59 = .ok (.if_icmp .ne 6, 3) := by decide +kernel
theorem dX10_way_62 : decode cX10_way 62 = .ok (.iload 4, 2) := by decide +kernel
theorem dX10_way_64 : decode cX10_way 64 = .ok (.ireturn, 1) := by decide +kernel
theorem dX10_way_65 : decode cX10_way 65 = .ok (.iload_n 3, 1) := by decide +kernel
theorem dX10_way_66 : decode cX10_way 66 = .ok (.iload 4, 2) := by decide +kernel
theorem dX10_way_68 : decode cX10_way 68 = .ok (.if_icmp .le 6, 3) := by decide +kernel
theorem dX10_way_71 : decode cX10_way 71 = .ok (.bipush (-4), 2) := by decide +kernel
theorem dX10_way_73 : decode cX10_way 73 = .ok (.ireturn, 1) := by decide +kernel
theorem dX10_way_74 : decode cX10_way 74 = .ok (.iload_n 1, 1) := by decide +kernel
theorem dX10_way_75 : decode cX10_way 75 = .ok (.istore 5, 2) := by decide +kernel
theorem dX10_way_77 : decode cX10_way 77 = .ok (.iconst 0, 1) := by decide +kernel
theorem dX10_way_78 : decode cX10_way 78 = .ok (.istore 6, 2) := by decide +kernel
theorem dX10_way_80 : decode cX10_way 80 = .ok (.iload 6, 2) := by decide +kernel
theorem dX10_way_82 : decode cX10_way 82 = .ok (.iload_n 3, 1) := by decide +kernel
theorem dX10_way_83 : decode cX10_way 83 = .ok (.if_icmp .ge 59, 3) := by decide +kernel
theorem dX10_way_86 : decode cX10_way 86 = .ok (.iconst 0, 1) := by decide +kernel
theorem dX10_way_87 : decode cX10_way 87 = .ok (.istore 7, 2) := by decide +kernel
theorem dX10_way_89 : decode cX10_way 89 = .ok (.aload_n 0, 1) := by decide +kernel
theorem dX10_way_90 : decode cX10_way 90 = .ok (.getfield 19, 3) := by decide +kernel
theorem dX10_way_93 : decode cX10_way 93 = .ok (.iload 5, 2) := by decide +kernel
theorem dX10_way_95 : decode cX10_way 95 = .ok (.iaload, 1) := by decide +kernel
theorem dX10_way_96 : decode cX10_way 96 = .ok (.iload 7, 2) := by decide +kernel
theorem dX10_way_98 : decode cX10_way 98 = .ok (.invokestatic 120, 3) := by decide +kernel
theorem dX10_way_101 : decode cX10_way 101 = .ok (.ifCond .eq 22, 3) := by decide +kernel
theorem dX10_way_104 : decode cX10_way 104 = .ok (.aload_n 0, 1) := by decide +kernel
theorem dX10_way_105 : decode cX10_way 105 = .ok (.getfield 97, 3) := by decide +kernel
theorem dX10_way_108 : decode cX10_way 108 = .ok (.iload 7, 2) := by decide +kernel
theorem dX10_way_110 : decode cX10_way 110 = .ok (.iaload, 1) := by decide +kernel
theorem dX10_way_111 : decode cX10_way 111 = .ok (.aload_n 0, 1) := by decide +kernel
theorem dX10_way_112 : decode cX10_way 112 = .ok (.getfield 97, 3) := by decide +kernel
theorem dX10_way_115 : decode cX10_way 115 = .ok (.iload 5, 2) := by decide +kernel
theorem dX10_way_117 : decode cX10_way 117 = .ok (.iaload, 1) := by decide +kernel
theorem dX10_way_118 : decode cX10_way 118 = .ok (.iconst 1, 1) := by decide +kernel
theorem dX10_way_119 : decode cX10_way 119 = .ok (.isub, 1) := by decide +kernel
theorem dX10_way_120 : decode cX10_way 120 = .ok (.if_icmp .eq 12, 3) := by decide +kernel
theorem dX10_way_123 : decode cX10_way 123 = .ok (.iload 7, 2) := by decide +kernel
theorem dX10_way_125 : decode cX10_way 125 = .ok (.iconst 1, 1) := by decide +kernel
theorem dX10_way_126 : decode cX10_way 126 = .ok (.iadd, 1) := by decide +kernel
theorem dX10_way_127 : decode cX10_way 127 = .ok (.istore 7, 2) := by decide +kernel
theorem dX10_way_129 : decode cX10_way 129 = .ok (.goto (-40), 3) := by decide +kernel
theorem dX10_way_132 : decode cX10_way 132 = .ok (.iload 7, 2) := by decide +kernel
theorem dX10_way_134 : decode cX10_way 134 = .ok (.istore 5, 2) := by decide +kernel
theorem dX10_way_136 : decode cX10_way 136 = .ok (.iinc 6 1, 3) := by decide +kernel
theorem dX10_way_139 : decode cX10_way 139 = .ok (.goto (-59), 3) := by decide +kernel
theorem dX10_way_142 : decode cX10_way 142 = .ok (.iload 5, 2) := by decide +kernel
theorem dX10_way_144 : decode cX10_way 144 = .ok (.ireturn, 1) := by decide +kernel
theorem dX10_ways_0 : decode cX10_ways 0 = .ok (.aload_n 0, 1) := by decide +kernel
theorem dX10_ways_1 : decode cX10_ways 1 = .ok (.iload_n 1, 1) := by decide +kernel
theorem dX10_ways_2 : decode cX10_ways 2 = .ok (.invokevirtual 128, 3) := by decide +kernel
theorem dX10_ways_5 : decode cX10_ways 5 = .ok (.ifCond .eq 11, 3) := by decide +kernel
theorem dX10_ways_8 : decode cX10_ways 8 = .ok (.aload_n 0, 1) := by decide +kernel
theorem dX10_ways_9 : decode cX10_ways 9 = .ok (.iload_n 2, 1) := by decide +kernel
theorem dX10_ways_10 : decode cX10_ways 10 = .ok (.invokevirtual 128, 3) := by decide +kernel
theorem dX10_ways_13 : decode cX10_ways 13 = .ok (.ifCond .ne 5, 3) := by decide +kernel
theorem dX10_ways_16 : decode cX10_ways 16 = .ok (.iconst (-1), 1) := by decide +kernel
theorem dX10_ways_17 : decode cX10_ways 17 = .ok (.ireturn, 1) := by decide +kernel
theorem dX10_ways_18 : decode cX10_ways 18 = .ok (.aload_n 0, 1) := by decide +kernel
theorem dX10_ways_19 : decode cX10_ways 19 = .ok (.iload_n 1, 1) := by decide +kernel
theorem dX10_ways_20 : decode cX10_ways 20 = .ok (.invokevirtual 344, 3) := by decide +kernel
theorem dX10_ways_23 : decode cX10_ways 23 = .ok (.aload_n 0, 1) := by decide +kernel
theorem dX10_ways_24 : decode cX10_ways 24 = .ok (.getfield 100, 3) := by decide +kernel
theorem dX10_ways_27 : decode cX10_ways 27 = .ok (.iload_n 2, 1) := by decide +kernel
theorem dX10_ways_28 : decode cX10_ways 28 = .ok (.iaload, 1) := by decide +kernel
theorem dX10_ways_29 : decode cX10_ways 29 = .ok (.ireturn, 1) := by decide +kernel
theorem dX10_nearest_0 : decode cX10_nearest 0 = .ok (.aload_n 0, 1) := by decide +kernel
theorem dX10_nearest_1 : decode cX10_nearest 1 = .ok (.iload_n 1, 1) := by decide +kernel
theorem dX10_nearest_2 : decode cX10_nearest 2 = .ok (.invokevirtual 128, 3) := by decide +kernel
theorem dX10_nearest_5 : decode cX10_nearest 5 = .ok (.ifCond .eq 12, 3) := by decide +kernel
theorem dX10_nearest_8 : decode cX10_nearest 8 = .ok (.iload_n 2, 1) := by decide +kernel
theorem dX10_nearest_9 : decode cX10_nearest 9 = .ok (.iconst 0, 1) := by decide +kernel
theorem dX10_nearest_10 : decode cX10_nearest 10 = .ok (.iconst 1, 1) := by decide +kernel
theorem dX10_nearest_11 : decode cX10_nearest 11 = .ok (.invokestatic 112, 3) := by decide +kernel
theorem dX10_nearest_14 : decode cX10_nearest 14 = .ok (.ifCond .ne 5, 3) := by decide +kernel
theorem dX10_nearest_17 : decode cX10_nearest 17 = .ok (.iconst (-1), 1) := by decide +kernel
theorem dX10_nearest_18 : decode cX10_nearest 18 = .ok (.ireturn, 1) := by decide +kernel
theorem dX10_nearest_19 : decode cX10_nearest 19 = .ok (.aload_n 0, 1) := by decide +kernel
theorem dX10_nearest_20 : decode cX10_nearest 20 = .ok (.iload_n 1, 1) := by decide +kernel
theorem dX10_nearest_21 : decode cX10_nearest 21 = .ok (.invokevirtual 344, 3) := by decide +kernel
theorem dX10_nearest_24 : decode cX10_nearest 24 = .ok (.bipush (-2), 2) := by decide +kernel
theorem dX10_nearest_26 : decode cX10_nearest 26 = .ok (.istore_n 3, 1) := by decide +kernel
theorem dX10_nearest_27 : decode cX10_nearest 27 = .ok (.ldc_w 359, 3) := by decide +kernel
theorem dX10_nearest_30 : decode cX10_nearest 30 = .ok (.istore 4, 2) := by decide +kernel
theorem dX10_nearest_32 : decode cX10_nearest 32 = .ok (.iconst 0, 1) := by decide +kernel
theorem dX10_nearest_33 : decode cX10_nearest 33 = .ok (.istore 5, 2) := by decide +kernel
theorem dX10_nearest_35 : decode cX10_nearest 35 = .ok (.iload 5, 2) := by decide +kernel
theorem dX10_nearest_37 : decode cX10_nearest 37 = .ok (.bipush 8, 2) := by decide +kernel
theorem dX10_nearest_39 : decode cX10_nearest 39 = .ok (.if_icmp .ge 80, 3) := by decide +kernel
theorem dX10_nearest_42 : decode cX10_nearest 42 = .ok (.aload_n 0, 1) := by decide +kernel
theorem dX10_nearest_43 : decode cX10_nearest 43 = .ok (.iload 5, 2) := by decide +kernel
theorem dX10_nearest_45 : decode cX10_nearest 45 = .ok (.invokevirtual 124, 3) := by decide +kernel
theorem dX10_nearest_48 : decode cX10_nearest 48 = .ok (.ifCond .eq 65, 3) := by decide +kernel
theorem dX10_nearest_51 : decode cX10_nearest 51 = .ok (.aload_n 0, 1) := by decide +kernel
theorem dX10_nearest_52 : decode cX10_nearest 52 = .ok (.getfield 97, 3) := by decide +kernel
theorem dX10_nearest_55 : decode cX10_nearest 55 = .ok (.aload_n 0, 1) := by decide +kernel
theorem dX10_nearest_56 : decode cX10_nearest 56 = .ok (.getfield 7, 3) := by decide +kernel
theorem dX10_nearest_59 : decode cX10_nearest 59 = .ok (.bipush 56, 2) := by decide +kernel
theorem dX10_nearest_61 : decode cX10_nearest 61 = .ok (.iload 5, 2) := by decide +kernel
theorem dX10_nearest_63 : decode cX10_nearest 63 = .ok (.iadd, 1) := by decide +kernel
theorem dX10_nearest_64 : decode cX10_nearest 64 = .ok (.iaload, 1) := by decide +kernel
theorem dX10_nearest_65 : decode cX10_nearest 65 = .ok (.iaload, 1) := by decide +kernel
theorem dX10_nearest_66 : decode cX10_nearest 66 = .ok (.iconst (-1), 1) := by decide +kernel
theorem dX10_nearest_67 : decode cX10_nearest 67 = .ok (.if_icmp .eq 46, 3) := by decide +kernel
theorem dX10_nearest_70 : decode cX10_nearest 70 = .ok (.aload_n 0, 1) := by decide +kernel
theorem dX10_nearest_71 : decode cX10_nearest 71 = .ok (.getfield 97, 3) := by decide +kernel
theorem dX10_nearest_74 : decode cX10_nearest 74 = .ok (.aload_n 0, 1) := by decide +kernel
theorem dX10_nearest_75 : decode cX10_nearest 75 = .ok (.getfield 7, 3) := by decide +kernel
theorem dX10_nearest_78 : decode cX10_nearest 78 = .ok (.bipush 56, 2) := by decide +kernel
theorem dX10_nearest_80 : decode cX10_nearest 80 = .ok (.iload 5, 2) := by decide +kernel
theorem dX10_nearest_82 : decode cX10_nearest 82 = .ok (.iadd, 1) := by decide +kernel
theorem dX10_nearest_83 : decode cX10_nearest 83 = .ok (.iaload, 1) := by decide +kernel
theorem dX10_nearest_84 : decode cX10_nearest 84 = .ok (.iaload, 1) := by decide +kernel
theorem dX10_nearest_85 : decode cX10_nearest 85 = .ok (.iload 4, 2) := by decide +kernel
theorem dX10_nearest_87 : decode cX10_nearest 87 = .ok (.if_icmp .lt 6, 3) := by decide +kernel
theorem dX10_nearest_90 : decode cX10_nearest 90 = .ok (.goto 23, 3) := by decide +kernel
theorem dX10_nearest_93 : decode cX10_nearest 93 = .ok (.aload_n 0, 1) := by decide +kernel
theorem dX10_nearest_94 : decode cX10_nearest 94 = .ok (.getfield 97, 3) := by decide +kernel
theorem dX10_nearest_97 : decode cX10_nearest 97 = .ok (.aload_n 0, 1) := by decide +kernel
theorem dX10_nearest_98 : decode cX10_nearest 98 = .ok (.getfield 7, 3) := by decide +kernel
theorem dX10_nearest_101 : decode cX10_nearest 101 = .ok (.bipush 56, 2) := by decide +kernel
theorem dX10_nearest_103 : decode cX10_nearest 103 = .ok (.iload 5, 2) := by decide +kernel
theorem dX10_nearest_105 : decode cX10_nearest 105 = .ok (.iadd, 1) := by decide +kernel
theorem dX10_nearest_106 : decode cX10_nearest 106 = .ok (.iaload, 1) := by decide +kernel
theorem dX10_nearest_107 : decode cX10_nearest 107 = .ok (.iaload, 1) := by decide +kernel
theorem dX10_nearest_108 : decode cX10_nearest 108 = .ok (.istore 4, 2) := by decide +kernel
theorem dX10_nearest_110 : decode cX10_nearest 110 = .ok (.iload 5, 2) := by decide +kernel
theorem dX10_nearest_112 : decode cX10_nearest 112 = .ok (.istore_n 3, 1) := by decide +kernel
theorem dX10_nearest_113 : decode cX10_nearest 113 = .ok (.iinc 5 1, 3) := by decide +kernel
theorem dX10_nearest_116 : decode cX10_nearest 116 = .ok (.goto (-81), 3) := by decide +kernel
theorem dX10_nearest_119 : decode cX10_nearest 119 = .ok (.iload_n 2, 1) := by decide +kernel
theorem dX10_nearest_120 : decode cX10_nearest 120 = .ok (.ifCond .eq 9, 3) := by decide +kernel
theorem dX10_nearest_123 : decode cX10_nearest 123 = .ok (.iload_n 3, 1) := by decide +kernel
theorem dX10_nearest_124 : decode cX10_nearest 124 = .ok (.bipush (-2), 2) := by decide +kernel
theorem dX10_nearest_126 : decode cX10_nearest 126 = .ok (.if_icmp .ne 7, 3) := by decide +kernel
theorem dX10_nearest_129 : decode cX10_nearest 129 = .ok (.iload_n 3, 1) := by decide +kernel
theorem dX10_nearest_130 : decode cX10_nearest 130 = .ok (.goto 5, 3) := by decide +kernel
theorem dX10_nearest_133 : decode cX10_nearest 133 = .ok (.iload 4, 2) := by decide +kernel
theorem dX10_nearest_135 : decode cX10_nearest 135 = .ok (.ireturn, 1) := by decide +kernel
theorem dX10_stepsOrFar_0 : decode cX10_stepsOrFar 0 = .ok (.aload_n 0, 1) := by decide +kernel
theorem dX10_stepsOrFar_1 : decode cX10_stepsOrFar 1 = .ok (.getfield 97, 3) := by decide +kernel
theorem dX10_stepsOrFar_4 : decode cX10_stepsOrFar 4 = .ok (.iload_n 1, 1) := by decide +kernel
theorem dX10_stepsOrFar_5 : decode cX10_stepsOrFar 5 = .ok (.iaload, 1) := by decide +kernel
theorem dX10_stepsOrFar_6 : decode cX10_stepsOrFar 6 = .ok (.iconst (-1), 1) := by decide +kernel
theorem dX10_stepsOrFar_7 : decode cX10_stepsOrFar 7 = .ok (.if_icmp .ne 9, 3) := by decide +kernel
theorem dX10_stepsOrFar_10 : decode cX10_stepsOrFar 10 = .ok (.ldc_w 359, 3) := by decide +kernel
theorem dX10_stepsOrFar_13 : decode cX10_stepsOrFar 13 = .ok (.goto 9, 3) := by decide +kernel
theorem dX10_stepsOrFar_16 : decode cX10_stepsOrFar 16 = .ok (.aload_n 0, 1) := by decide +kernel
theorem dX10_stepsOrFar_17 : decode cX10_stepsOrFar 17 = .ok (.getfield 97, 3) := by decide +kernel
theorem dX10_stepsOrFar_20 : decode cX10_stepsOrFar 20 = .ok (.iload_n 1, 1) := by decide +kernel
theorem dX10_stepsOrFar_21 : decode cX10_stepsOrFar 21 = .ok (.iaload, 1) := by decide +kernel
theorem dX10_stepsOrFar_22 : decode cX10_stepsOrFar 22 = .ok (.ireturn, 1) := by decide +kernel
theorem dX10_alibis_0 : decode cX10_alibis 0 = .ok (.iload_n 1, 1) := by decide +kernel
theorem dX10_alibis_1 : decode cX10_alibis 1 = .ok (.iconst 1, 1) := by decide +kernel
theorem dX10_alibis_2 : decode cX10_alibis 2 = .ok (.bipush 10, 2) := by decide +kernel
theorem dX10_alibis_4 : decode cX10_alibis 4 = .ok (.invokestatic 112, 3) := by decide +kernel
theorem dX10_alibis_7 : decode cX10_alibis 7 = .ok (.ifCond .eq 32, 3) := by decide +kernel
theorem dX10_alibis_10 : decode cX10_alibis 10 = .ok (.aload_n 0, 1) := by decide +kernel
theorem dX10_alibis_11 : decode cX10_alibis 11 = .ok (.iload_n 2, 1) := by decide +kernel
theorem dX10_alibis_12 : decode cX10_alibis 12 = .ok (.invokevirtual 128, 3) := by decide +kernel
theorem dX10_alibis_15 : decode cX10_alibis 15 = .ok (.ifCond .eq 24, 3) := by decide +kernel
theorem dX10_alibis_18 : decode cX10_alibis 18 = .ok (.iload_n 3, 1) := by decide +kernel
theorem dX10_alibis_19 : decode cX10_alibis 19 = .ok (.iconst 0, 1) := by decide +kernel
theorem dX10_alibis_20 : decode cX10_alibis 20 = .ok (.sipush 255, 3) := by decide +kernel
theorem dX10_alibis_23 : decode cX10_alibis 23 = .ok (.invokestatic 112, 3) := by decide +kernel
theorem dX10_alibis_26 : decode cX10_alibis 26 = .ok (.ifCond .eq 13, 3) := by decide +kernel
theorem dX10_alibis_29 : decode cX10_alibis 29 = .ok (.iconst 4, 1) := by decide +kernel
theorem dX10_alibis_30 : decode cX10_alibis 30 = .ok (.iload_n 1, 1) := by decide +kernel
theorem dX10_alibis_31 : decode cX10_alibis 31 = .ok (.imul, 1) := by decide +kernel
theorem dX10_alibis_32 : decode cX10_alibis 32 = .ok (.aload_n 0, 1) := by decide +kernel
theorem dX10_alibis_33 : decode cX10_alibis 33 = .ok (.getfield 131, 3) := by decide +kernel
theorem dX10_alibis_36 : decode cX10_alibis 36 = .ok (.if_icmp .le 5, 3) := by decide +kernel
theorem dX10_alibis_39 : decode cX10_alibis 39 = .ok (.iconst (-1), 1) := by decide +kernel
theorem dX10_alibis_40 : decode cX10_alibis 40 = .ok (.ireturn, 1) := by decide +kernel
theorem dX10_alibis_41 : decode cX10_alibis 41 = .ok (.aload_n 0, 1) := by decide +kernel
theorem dX10_alibis_42 : decode cX10_alibis 42 = .ok (.iconst 0, 1) := by decide +kernel
theorem dX10_alibis_43 : decode cX10_alibis 43 = .ok (.putfield 131, 3) := by decide +kernel
theorem dX10_alibis_46 : decode cX10_alibis 46 = .ok (.iconst 0, 1) := by decide +kernel
theorem dX10_alibis_47 : decode cX10_alibis 47 = .ok (.istore 4, 2) := by decide +kernel
theorem dX10_alibis_49 : decode cX10_alibis 49 = .ok (.iload 4, 2) := by decide +kernel
theorem dX10_alibis_51 : decode cX10_alibis 51 = .ok (.iload_n 1, 1) := by decide +kernel
theorem dX10_alibis_52 : decode cX10_alibis 52 = .ok (.if_icmp .ge 44, 3) := by decide +kernel
theorem dX10_alibis_55 : decode cX10_alibis 55 = .ok (.aload_n 0, 1) := by decide +kernel
theorem dX10_alibis_56 : decode cX10_alibis 56 = .ok (.aload_n 0, 1) := by decide +kernel
theorem dX10_alibis_57 : decode cX10_alibis 57 = .ok (.iconst 4, 1) := by decide +kernel
theorem dX10_alibis_58 : decode cX10_alibis 58 = .ok (.iload 4, 2) := by decide +kernel
theorem dX10_alibis_60 : decode cX10_alibis 60 = .ok (.imul, 1) := by decide +kernel
theorem dX10_alibis_61 : decode cX10_alibis 61 = .ok (.invokevirtual 360, 3) := by decide +kernel
theorem dX10_alibis_64 : decode cX10_alibis 64 = .ok (.invokevirtual 128, 3) := by decide +kernel
theorem dX10_alibis_67 : decode cX10_alibis 67 = .ok (.ifCond .eq 20, 3) := by decide +kernel
theorem dX10_alibis_70 : decode cX10_alibis 70 = .ok (.aload_n 0, 1) := by decide +kernel
theorem dX10_alibis_71 : decode cX10_alibis 71 = .ok (.aload_n 0, 1) := by decide +kernel
theorem dX10_alibis_72 : decode cX10_alibis 72 = .ok (.iconst 4, 1) := by decide +kernel
theorem dX10_alibis_73 : decode cX10_alibis 73 = .ok (.iload 4, 2) := by decide +kernel
theorem dX10_alibis_75 : decode cX10_alibis 75 = .ok (.imul, 1) := by decide +kernel
theorem dX10_alibis_76 : decode cX10_alibis 76 = .ok (.iconst 2, 1) := by decide +kernel
theorem dX10_alibis_77 : decode cX10_alibis 77 = .ok (.iadd, 1) := by decide +kernel
theorem dX10_alibis_78 : decode cX10_alibis 78 = .ok (.invokevirtual 360, 3) := by decide +kernel
theorem dX10_alibis_81 : decode cX10_alibis 81 = .ok (.invokevirtual 128, 3) := by decide +kernel
theorem dX10_alibis_84 : decode cX10_alibis 84 = .ok (.ifCond .ne 6, 3) := by decide +kernel
theorem dX10_alibis_87 : decode cX10_alibis 87 = .ok (.bipush (-2), 2) := by decide +kernel
theorem dX10_alibis_89 : decode cX10_alibis 89 = .ok (.ireturn, 1) := by decide +kernel
theorem dX10_alibis_90 : decode cX10_alibis 90 = .ok (.iinc 4 1, 3) := by decide +kernel
theorem dX10_alibis_93 : decode cX10_alibis 93 = .ok (.goto (-44), 3) := by decide +kernel
theorem dX10_alibis_96 : decode cX10_alibis 96 = .ok (.iconst 0, 1) := by decide +kernel
theorem dX10_alibis_97 : decode cX10_alibis 97 = .ok (.istore 4, 2) := by decide +kernel
theorem dX10_alibis_99 : decode cX10_alibis 99 = .ok (.iconst 0, 1) := by decide +kernel
theorem dX10_alibis_100 : decode cX10_alibis 100 = .ok (.istore 5, 2) := by decide +kernel
theorem dX10_alibis_102 : decode cX10_alibis 102 = .ok (.iload 5, 2) := by decide +kernel
theorem dX10_alibis_104 : decode cX10_alibis 104 = .ok (.iload_n 1, 1) := by decide +kernel
theorem dX10_alibis_105 : decode cX10_alibis 105 = .ok (.if_icmp .ge 126, 3) := by decide +kernel
theorem dX10_alibis_108 : decode cX10_alibis 108 = .ok (.aload_n 0, 1) := by decide +kernel
theorem dX10_alibis_109 : decode cX10_alibis 109 = .ok (.aload_n 0, 1) := by decide +kernel
theorem dX10_alibis_110 : decode cX10_alibis 110 = .ok (.iconst 4, 1) := by decide +kernel
theorem dX10_alibis_111 : decode cX10_alibis 111 = .ok (.iload 5, 2) := by decide +kernel
theorem dX10_alibis_113 : decode cX10_alibis 113 = .ok (.imul, 1) := by decide +kernel
theorem dX10_alibis_114 : decode cX10_alibis 114 = .ok (.invokevirtual 360, 3) := by decide +kernel
theorem dX10_alibis_117 : decode cX10_alibis 117 = .ok (.invokevirtual 344, 3) := by decide +kernel
theorem dX10_alibis_120 : decode cX10_alibis 120 = .ok (.aload_n 0, 1) := by decide +kernel
theorem dX10_alibis_121 : decode cX10_alibis 121 = .ok (.aload_n 0, 1) := by decide +kernel
theorem dX10_alibis_122 : decode cX10_alibis 122 = .ok (.iconst 4, 1) := by decide +kernel
theorem dX10_alibis_123 : decode cX10_alibis 123 = .ok (.iload 5, 2) := by decide +kernel
theorem dX10_alibis_125 : decode cX10_alibis 125 = .ok (.imul, 1) := by decide +kernel
theorem dX10_alibis_126 : decode cX10_alibis 126 = .ok (.iconst 2, 1) := by decide +kernel
theorem dX10_alibis_127 : decode cX10_alibis 127 = .ok (.iadd, 1) := by decide +kernel
theorem dX10_alibis_128 : decode cX10_alibis 128 = .ok (.invokevirtual 360, 3) := by decide +kernel
theorem dX10_alibis_131 : decode cX10_alibis 131 = .ok (.invokevirtual 363, 3) := by decide +kernel
theorem dX10_alibis_134 : decode cX10_alibis 134 = .ok (.istore 6, 2) := by decide +kernel
theorem dX10_alibis_136 : decode cX10_alibis 136 = .ok (.aload_n 0, 1) := by decide +kernel
theorem dX10_alibis_137 : decode cX10_alibis 137 = .ok (.iload_n 2, 1) := by decide +kernel
theorem dX10_alibis_138 : decode cX10_alibis 138 = .ok (.invokevirtual 363, 3) := by decide +kernel
theorem dX10_alibis_141 : decode cX10_alibis 141 = .ok (.istore 7, 2) := by decide +kernel
theorem dX10_alibis_143 : decode cX10_alibis 143 = .ok (.aload_n 0, 1) := by decide +kernel
theorem dX10_alibis_144 : decode cX10_alibis 144 = .ok (.aload_n 0, 1) := by decide +kernel
theorem dX10_alibis_145 : decode cX10_alibis 145 = .ok (.iconst 4, 1) := by decide +kernel
theorem dX10_alibis_146 : decode cX10_alibis 146 = .ok (.iload 5, 2) := by decide +kernel
theorem dX10_alibis_148 : decode cX10_alibis 148 = .ok (.imul, 1) := by decide +kernel
theorem dX10_alibis_149 : decode cX10_alibis 149 = .ok (.iconst 2, 1) := by decide +kernel
theorem dX10_alibis_150 : decode cX10_alibis 150 = .ok (.iadd, 1) := by decide +kernel
theorem dX10_alibis_151 : decode cX10_alibis 151 = .ok (.invokevirtual 360, 3) := by decide +kernel
theorem dX10_alibis_154 : decode cX10_alibis 154 = .ok (.invokevirtual 344, 3) := by decide +kernel
theorem dX10_alibis_157 : decode cX10_alibis 157 = .ok (.aload_n 0, 1) := by decide +kernel
theorem dX10_alibis_158 : decode cX10_alibis 158 = .ok (.iload_n 2, 1) := by decide +kernel
theorem dX10_alibis_159 : decode cX10_alibis 159 = .ok (.invokevirtual 363, 3) := by decide +kernel
theorem dX10_alibis_162 : decode cX10_alibis 162 = .ok (.istore 8, 2) := by decide +kernel
theorem dX10_alibis_164 : decode cX10_alibis 164 = .ok (.aload_n 0, 1) := by decide +kernel
theorem dX10_alibis_165 : decode cX10_alibis 165 = .ok (.iconst 4, 1) := by decide +kernel
theorem dX10_alibis_166 : decode cX10_alibis 166 = .ok (.iload 5, 2) := by decide +kernel
theorem dX10_alibis_168 : decode cX10_alibis 168 = .ok (.imul, 1) := by decide +kernel
theorem dX10_alibis_169 : decode cX10_alibis 169 = .ok (.iconst 1, 1) := by decide +kernel
theorem dX10_alibis_170 : decode cX10_alibis 170 = .ok (.iadd, 1) := by decide +kernel
theorem dX10_alibis_171 : decode cX10_alibis 171 = .ok (.invokevirtual 360, 3) := by decide +kernel
theorem dX10_alibis_174 : decode cX10_alibis 174 = .ok (.istore 9, 2) := by decide +kernel
theorem dX10_alibis_176 : decode cX10_alibis 176 = .ok (.aload_n 0, 1) := by decide +kernel
theorem dX10_alibis_177 : decode cX10_alibis 177 = .ok (.iconst 4, 1) := by decide +kernel
theorem dX10_alibis_178 : decode cX10_alibis 178 = .ok (.iload 5, 2) := by decide +kernel
theorem dX10_alibis_180 : decode cX10_alibis 180 = .ok (.imul, 1) := by decide +kernel
theorem dX10_alibis_181 : decode cX10_alibis 181 = .ok (.iconst 3, 1) := by decide +kernel
theorem dX10_alibis_182 : decode cX10_alibis 182 = .ok (.iadd, 1) := by decide +kernel
theorem dX10_alibis_183 : decode cX10_alibis 183 = .ok (.invokevirtual 360, 3) := by decide +kernel
theorem dX10_alibis_186 : decode cX10_alibis 186 = .ok (.istore 10, 2) := by decide +kernel
theorem dX10_alibis_188 : decode cX10_alibis 188 = .ok (.iload 6, 2) := by decide +kernel
theorem dX10_alibis_190 : decode cX10_alibis 190 = .ok (.iload 10, 2) := by decide +kernel
theorem dX10_alibis_192 : decode cX10_alibis 192 = .ok (.iload 9, 2) := by decide +kernel
theorem dX10_alibis_194 : decode cX10_alibis 194 = .ok (.isub, 1) := by decide +kernel
theorem dX10_alibis_195 : decode cX10_alibis 195 = .ok (.if_icmp .gt 30, 3) := by decide +kernel
theorem dX10_alibis_198 : decode cX10_alibis 198 = .ok (.iload 7, 2) := by decide +kernel
theorem dX10_alibis_200 : decode cX10_alibis 200 = .ok (.iload_n 3, 1) := by decide +kernel
theorem dX10_alibis_201 : decode cX10_alibis 201 = .ok (.iload 9, 2) := by decide +kernel
theorem dX10_alibis_203 : decode cX10_alibis 203 = .ok (.isub, 1) := by decide +kernel
theorem dX10_alibis_204 : decode cX10_alibis 204 = .ok (.if_icmp .gt 21, 3) := by decide +kernel
theorem dX10_alibis_207 : decode cX10_alibis 207 = .ok (.iload 8, 2) := by decide +kernel
theorem dX10_alibis_209 : decode cX10_alibis 209 = .ok (.iload 10, 2) := by decide +kernel
theorem dX10_alibis_211 : decode cX10_alibis 211 = .ok (.iload_n 3, 1) := by decide +kernel
theorem dX10_alibis_212 : decode cX10_alibis 212 = .ok (.isub, 1) := by decide +kernel
theorem dX10_alibis_213 : decode cX10_alibis 213 = .ok (.if_icmp .gt 12, 3) := by decide +kernel
theorem dX10_alibis_216 : decode cX10_alibis 216 = .ok (.iload 4, 2) := by decide +kernel
theorem dX10_alibis_218 : decode cX10_alibis 218 = .ok (.iconst 1, 1) := by decide +kernel
theorem dX10_alibis_219 : decode cX10_alibis 219 = .ok (.iload 5, 2) := by decide +kernel
theorem dX10_alibis_221 : decode cX10_alibis 221 = .ok (.ishl, 1) := by decide +kernel
theorem dX10_alibis_222 : decode cX10_alibis 222 = .ok (.ior, 1) := by decide +kernel
theorem dX10_alibis_223 : decode cX10_alibis 223 = .ok (.istore 4, 2) := by decide +kernel
theorem dX10_alibis_225 : decode cX10_alibis 225 = .ok (.iinc 5 1, 3) := by decide +kernel
theorem dX10_alibis_228 : decode cX10_alibis 228 = .ok (.goto (-126), 3) := by decide +kernel
theorem dX10_alibis_231 : decode cX10_alibis 231 = .ok (.iload 4, 2) := by decide +kernel
theorem dX10_alibis_233 : decode cX10_alibis 233 = .ok (.ireturn, 1) := by decide +kernel
theorem dX10_laysRanks_0 : decode cX10_laysRanks 0 = .ok (.iconst 0, 1) := by decide +kernel
theorem dX10_laysRanks_1 : decode cX10_laysRanks 1 = .ok (.istore_n 3, 1) := by decide +kernel
theorem dX10_laysRanks_2 : decode cX10_laysRanks 2 = .ok (.iload_n 3, 1) := by decide +kernel
theorem dX10_laysRanks_3 : decode cX10_laysRanks 3 = .ok (.iload_n 2, 1) := by decide +kernel
theorem dX10_laysRanks_4 : decode cX10_laysRanks 4 = .ok (.if_icmp .ge 80, 3) := by decide +kernel
theorem dX10_laysRanks_7 : decode cX10_laysRanks 7 = .ok (.iconst 0, 1) := by decide +kernel
theorem dX10_laysRanks_8 : decode cX10_laysRanks 8 = .ok (.istore 4, 2) := by decide +kernel
theorem dX10_laysRanks_10 : decode cX10_laysRanks 10 = .ok (.iconst 0, 1) := by decide +kernel
theorem dX10_laysRanks_11 : decode cX10_laysRanks 11 = .ok (.istore 5, 2) := by decide +kernel
theorem dX10_laysRanks_13 : decode cX10_laysRanks 13 = .ok (.iload 5, 2) := by decide +kernel
theorem dX10_laysRanks_15 : decode cX10_laysRanks 15 = .ok (.iload_n 1, 1) := by decide +kernel
theorem dX10_laysRanks_16 : decode cX10_laysRanks 16 = .ok (.if_icmp .ge 62, 3) := by decide +kernel
theorem dX10_laysRanks_19 : decode cX10_laysRanks 19 = .ok (.aload_n 0, 1) := by decide +kernel
theorem dX10_laysRanks_20 : decode cX10_laysRanks 20 = .ok (.iload_n 1, 1) := by decide +kernel
theorem dX10_laysRanks_21 : decode cX10_laysRanks 21 = .ok (.iload_n 3, 1) := by decide +kernel
theorem dX10_laysRanks_22 : decode cX10_laysRanks 22 = .ok (.imul, 1) := by decide +kernel
theorem dX10_laysRanks_23 : decode cX10_laysRanks 23 = .ok (.iload 5, 2) := by decide +kernel
theorem dX10_laysRanks_25 : decode cX10_laysRanks 25 = .ok (.iadd, 1) := by decide +kernel
theorem dX10_laysRanks_26 : decode cX10_laysRanks 26 = .ok (.invokevirtual 360, 3) := by decide +kernel
theorem dX10_laysRanks_29 : decode cX10_laysRanks 29 = .ok (.istore 6, 2) := by decide +kernel
theorem dX10_laysRanks_31 : decode cX10_laysRanks 31 = .ok (.iload 6, 2) := by decide +kernel
theorem dX10_laysRanks_33 : decode cX10_laysRanks 33 = .ok (.iload_n 1, 1) := by decide +kernel
theorem dX10_laysRanks_34 : decode cX10_laysRanks 34 = .ok (.if_icmp .ge 13, 3) := by decide +kernel
theorem dX10_laysRanks_37 : decode cX10_laysRanks 37 = .ok (.iload 4, 2) := by decide +kernel
theorem dX10_laysRanks_39 : decode cX10_laysRanks 39 = .ok (.iload 6, 2) := by decide +kernel
theorem dX10_laysRanks_41 : decode cX10_laysRanks 41 = .ok (.invokestatic 120, 3) := by decide +kernel
theorem dX10_laysRanks_44 : decode cX10_laysRanks 44 = .ok (.ifCond .eq 5, 3) := by decide +kernel
theorem dX10_laysRanks_47 : decode cX10_laysRanks 47 = .ok (.iconst 0, 1) := by decide +kernel
theorem dX10_laysRanks_48 : decode cX10_laysRanks 48 = .ok (.ireturn, 1) := by decide +kernel
theorem dX10_laysRanks_49 : decode cX10_laysRanks 49 = .ok (.iload 4, 2) := by decide +kernel
theorem dX10_laysRanks_51 : decode cX10_laysRanks 51 = .ok (.iconst 1, 1) := by decide +kernel
theorem dX10_laysRanks_52 : decode cX10_laysRanks 52 = .ok (.iload 6, 2) := by decide +kernel
theorem dX10_laysRanks_54 : decode cX10_laysRanks 54 = .ok (.ishl, 1) := by decide +kernel
theorem dX10_laysRanks_55 : decode cX10_laysRanks 55 = .ok (.ior, 1) := by decide +kernel
theorem dX10_laysRanks_56 : decode cX10_laysRanks 56 = .ok (.istore 4, 2) := by decide +kernel
theorem dX10_laysRanks_58 : decode cX10_laysRanks 58 = .ok (.aload_n 0, 1) := by decide +kernel
theorem dX10_laysRanks_59 : decode cX10_laysRanks 59 = .ok (.getfield 109, 3) := by decide +kernel
theorem dX10_laysRanks_62 : decode cX10_laysRanks 62 = .ok (.bipush 6, 2) := by decide +kernel
theorem dX10_laysRanks_64 : decode cX10_laysRanks 64 = .ok (.iload_n 3, 1) := by decide +kernel
theorem dX10_laysRanks_65 : decode cX10_laysRanks 65 = .ok (.imul, 1) := by decide +kernel
theorem dX10_laysRanks_66 : decode cX10_laysRanks 66 = .ok (.iload 6, 2) := by decide +kernel
theorem dX10_laysRanks_68 : decode cX10_laysRanks 68 = .ok (.iadd, 1) := by decide +kernel
theorem dX10_laysRanks_69 : decode cX10_laysRanks 69 = .ok (.iload 5, 2) := by decide +kernel
theorem dX10_laysRanks_71 : decode cX10_laysRanks 71 = .ok (.iastore, 1) := by decide +kernel
theorem dX10_laysRanks_72 : decode cX10_laysRanks 72 = .ok (.iinc 5 1, 3) := by decide +kernel
theorem dX10_laysRanks_75 : decode cX10_laysRanks 75 = .ok (.goto (-62), 3) := by decide +kernel
theorem dX10_laysRanks_78 : decode cX10_laysRanks 78 = .ok (.iinc 3 1, 3) := by decide +kernel
theorem dX10_laysRanks_81 : decode cX10_laysRanks 81 = .ok (.goto (-79), 3) := by decide +kernel
theorem dX10_laysRanks_84 : decode cX10_laysRanks 84 = .ok (.iconst 1, 1) := by decide +kernel
theorem dX10_laysRanks_85 : decode cX10_laysRanks 85 = .ok (.ireturn, 1) := by decide +kernel
theorem dX10_margin_0 : decode cX10_margin 0 = .ok (.iconst 0, 1) := by decide +kernel
theorem dX10_margin_1 : decode cX10_margin 1 = .ok (.istore 4, 2) := by decide +kernel
theorem dX10_margin_3 : decode cX10_margin 3 = .ok (.iconst 0, 1) := by decide +kernel
theorem dX10_margin_4 : decode cX10_margin 4 = .ok (.istore 5, 2) := by decide +kernel
theorem dX10_margin_6 : decode cX10_margin 6 = .ok (.iload 5, 2) := by decide +kernel
theorem dX10_margin_8 : decode cX10_margin 8 = .ok (.iload_n 3, 1) := by decide +kernel
theorem dX10_margin_9 : decode cX10_margin 9 = .ok (.if_icmp .ge 46, 3) := by decide +kernel
theorem dX10_margin_12 : decode cX10_margin 12 = .ok (.iload 4, 2) := by decide +kernel
theorem dX10_margin_14 : decode cX10_margin 14 = .ok (.aload_n 0, 1) := by decide +kernel
theorem dX10_margin_15 : decode cX10_margin 15 = .ok (.getfield 109, 3) := by decide +kernel
theorem dX10_margin_18 : decode cX10_margin 18 = .ok (.bipush 6, 2) := by decide +kernel
theorem dX10_margin_20 : decode cX10_margin 20 = .ok (.iload 5, 2) := by decide +kernel
theorem dX10_margin_22 : decode cX10_margin 22 = .ok (.imul, 1) := by decide +kernel
theorem dX10_margin_23 : decode cX10_margin 23 = .ok (.iload_n 1, 1) := by decide +kernel
theorem dX10_margin_24 : decode cX10_margin 24 = .ok (.iadd, 1) := by decide +kernel
theorem dX10_margin_25 : decode cX10_margin 25 = .ok (.iaload, 1) := by decide +kernel
theorem dX10_margin_26 : decode cX10_margin 26 = .ok (.aload_n 0, 1) := by decide +kernel
theorem dX10_margin_27 : decode cX10_margin 27 = .ok (.getfield 109, 3) := by decide +kernel
theorem dX10_margin_30 : decode cX10_margin 30 = .ok (.bipush 6, 2) := by decide +kernel
theorem dX10_margin_32 : decode cX10_margin 32 = .ok (.iload 5, 2) := by decide +kernel
theorem dX10_margin_34 : decode cX10_margin 34 = .ok (.imul, 1) := by decide +kernel
theorem dX10_margin_35 : decode cX10_margin 35 = .ok (.iload_n 2, 1) := by decide +kernel
theorem dX10_margin_36 : decode cX10_margin 36 = .ok (.iadd, 1) := by decide +kernel
theorem dX10_margin_37 : decode cX10_margin 37 = .ok (.iaload, 1) := by decide +kernel
theorem dX10_margin_38 : decode cX10_margin 38 = .ok (.if_icmp .ge 7, 3) := by decide +kernel
theorem dX10_margin_41 : decode cX10_margin 41 = .ok (.iconst 1, 1) := by decide +kernel
theorem dX10_margin_42 : decode cX10_margin 42 = .ok (.goto 4, 3) := by decide +kernel
theorem dX10_margin_45 : decode cX10_margin 45 = .ok (.iconst (-1), 1) := by decide +kernel
theorem dX10_margin_46 : decode cX10_margin 46 = .ok (.iadd, 1) := by decide +kernel
theorem dX10_margin_47 : decode cX10_margin 47 = .ok (.istore 4, 2) := by decide +kernel
theorem dX10_margin_49 : decode cX10_margin 49 = .ok (.iinc 5 1, 3) := by decide +kernel
theorem dX10_margin_52 : decode cX10_margin 52 = .ok (.goto (-46), 3) := by decide +kernel
theorem dX10_margin_55 : decode cX10_margin 55 = .ok (.iload 4, 2) := by decide +kernel
theorem dX10_margin_57 : decode cX10_margin 57 = .ok (.ireturn, 1) := by decide +kernel
theorem dX10_beatsAll_0 : decode cX10_beatsAll 0 = .ok (.iconst 0, 1) := by decide +kernel
theorem dX10_beatsAll_1 : decode cX10_beatsAll 1 = .ok (.istore 4, 2) := by decide +kernel
theorem dX10_beatsAll_3 : decode cX10_beatsAll 3 = .ok (.iload 4, 2) := by decide +kernel
theorem dX10_beatsAll_5 : decode cX10_beatsAll 5 = .ok (.iload_n 2, 1) := by decide +kernel
theorem dX10_beatsAll_6 : decode cX10_beatsAll 6 = .ok (.if_icmp .ge 28, 3) := by decide +kernel
theorem dX10_beatsAll_9 : decode cX10_beatsAll 9 = .ok (.iload 4, 2) := by decide +kernel
theorem dX10_beatsAll_11 : decode cX10_beatsAll 11 = .ok (.iload_n 1, 1) := by decide +kernel
theorem dX10_beatsAll_12 : decode cX10_beatsAll 12 = .ok (.if_icmp .eq 16, 3) := by decide +kernel
theorem dX10_beatsAll_15 : decode cX10_beatsAll 15 = .ok (.aload_n 0, 1) := by decide +kernel
theorem dX10_beatsAll_16 : decode cX10_beatsAll 16 = .ok (.iload_n 1, 1) := by decide +kernel
theorem dX10_beatsAll_17 : decode cX10_beatsAll 17 = .ok (.iload 4, 2) := by decide +kernel
theorem dX10_beatsAll_19 : decode cX10_beatsAll 19 = .ok (.iload_n 3, 1) := by decide +kernel
theorem dX10_beatsAll_20 : decode cX10_beatsAll 20 = .ok (.invokevirtual 366, 3) := by decide +kernel
theorem dX10_beatsAll_23 : decode cX10_beatsAll 23 = .ok (.ifCond .gt 5, 3) := by decide +kernel
theorem dX10_beatsAll_26 : decode cX10_beatsAll 26 = .ok (.iconst 0, 1) := by decide +kernel
theorem dX10_beatsAll_27 : decode cX10_beatsAll 27 = .ok (.ireturn, 1) := by decide +kernel
theorem dX10_beatsAll_28 : decode cX10_beatsAll 28 = .ok (.iinc 4 1, 3) := by decide +kernel
theorem dX10_beatsAll_31 : decode cX10_beatsAll 31 = .ok (.goto (-28), 3) := by decide +kernel
theorem dX10_beatsAll_34 : decode cX10_beatsAll 34 = .ok (.iconst 1, 1) := by decide +kernel
theorem dX10_beatsAll_35 : decode cX10_beatsAll 35 = .ok (.ireturn, 1) := by decide +kernel
theorem dX10_placesOf_0 : decode cX10_placesOf 0 = .ok (.iconst 0, 1) := by decide +kernel
theorem dX10_placesOf_1 : decode cX10_placesOf 1 = .ok (.istore_n 3, 1) := by decide +kernel
theorem dX10_placesOf_2 : decode cX10_placesOf 2 = .ok (.iconst 0, 1) := by decide +kernel
theorem dX10_placesOf_3 : decode cX10_placesOf 3 = .ok (.istore 4, 2) := by decide +kernel
theorem dX10_placesOf_5 : decode cX10_placesOf 5 = .ok (.iload 4, 2) := by decide +kernel
theorem dX10_placesOf_7 : decode cX10_placesOf 7 = .ok (.iload_n 2, 1) := by decide +kernel
theorem dX10_placesOf_8 : decode cX10_placesOf 8 = .ok (.if_icmp .ge 24, 3) := by decide +kernel
theorem dX10_placesOf_11 : decode cX10_placesOf 11 = .ok (.iload_n 3, 1) := by decide +kernel
theorem dX10_placesOf_12 : decode cX10_placesOf 12 = .ok (.aload_n 0, 1) := by decide +kernel
theorem dX10_placesOf_13 : decode cX10_placesOf 13 = .ok (.getfield 109, 3) := by decide +kernel
theorem dX10_placesOf_16 : decode cX10_placesOf 16 = .ok (.bipush 6, 2) := by decide +kernel
theorem dX10_placesOf_18 : decode cX10_placesOf 18 = .ok (.iload 4, 2) := by decide +kernel
theorem dX10_placesOf_20 : decode cX10_placesOf 20 = .ok (.imul, 1) := by decide +kernel
theorem dX10_placesOf_21 : decode cX10_placesOf 21 = .ok (.iload_n 1, 1) := by decide +kernel
theorem dX10_placesOf_22 : decode cX10_placesOf 22 = .ok (.iadd, 1) := by decide +kernel
theorem dX10_placesOf_23 : decode cX10_placesOf 23 = .ok (.iaload, 1) := by decide +kernel
theorem dX10_placesOf_24 : decode cX10_placesOf 24 = .ok (.iadd, 1) := by decide +kernel
theorem dX10_placesOf_25 : decode cX10_placesOf 25 = .ok (.istore_n 3, 1) := by decide +kernel
theorem dX10_placesOf_26 : decode cX10_placesOf 26 = .ok (.iinc 4 1, 3) := by decide +kernel
theorem dX10_placesOf_29 : decode cX10_placesOf 29 = .ok (.goto (-24), 3) := by decide +kernel
theorem dX10_placesOf_32 : decode cX10_placesOf 32 = .ok (.iload_n 3, 1) := by decide +kernel
theorem dX10_placesOf_33 : decode cX10_placesOf 33 = .ok (.ireturn, 1) := by decide +kernel
theorem dX10_bench_0 : decode cX10_bench 0 = .ok (.iload_n 1, 1) := by decide +kernel
theorem dX10_bench_1 : decode cX10_bench 1 = .ok (.iconst 2, 1) := by decide +kernel
theorem dX10_bench_2 : decode cX10_bench 2 = .ok (.bipush 6, 2) := by decide +kernel
theorem dX10_bench_4 : decode cX10_bench 4 = .ok (.invokestatic 112, 3) := by decide +kernel
theorem dX10_bench_7 : decode cX10_bench 7 = .ok (.ifCond .eq 32, 3) := by decide +kernel
theorem dX10_bench_10 : decode cX10_bench 10 = .ok (.iload_n 2, 1) := by decide +kernel
theorem dX10_bench_11 : decode cX10_bench 11 = .ok (.iconst 1, 1) := by decide +kernel
theorem dX10_bench_12 : decode cX10_bench 12 = .ok (.bipush 9, 2) := by decide +kernel
theorem dX10_bench_14 : decode cX10_bench 14 = .ok (.invokestatic 112, 3) := by decide +kernel
theorem dX10_bench_17 : decode cX10_bench 17 = .ok (.ifCond .eq 22, 3) := by decide +kernel
theorem dX10_bench_20 : decode cX10_bench 20 = .ok (.iload_n 3, 1) := by decide +kernel
theorem dX10_bench_21 : decode cX10_bench 21 = .ok (.iconst 0, 1) := by decide +kernel
theorem dX10_bench_22 : decode cX10_bench 22 = .ok (.iconst 2, 1) := by decide +kernel
theorem dX10_bench_23 : decode cX10_bench 23 = .ok (.invokestatic 112, 3) := by decide +kernel
theorem dX10_bench_26 : decode cX10_bench 26 = .ok (.ifCond .eq 13, 3) := by decide +kernel
theorem dX10_bench_29 : decode cX10_bench 29 = .ok (.iload_n 1, 1) := by decide +kernel
theorem dX10_bench_30 : decode cX10_bench 30 = .ok (.iload_n 2, 1) := by decide +kernel
theorem dX10_bench_31 : decode cX10_bench 31 = .ok (.imul, 1) := by decide +kernel
theorem dX10_bench_32 : decode cX10_bench 32 = .ok (.aload_n 0, 1) := by decide +kernel
theorem dX10_bench_33 : decode cX10_bench 33 = .ok (.getfield 131, 3) := by decide +kernel
theorem dX10_bench_36 : decode cX10_bench 36 = .ok (.if_icmp .le 5, 3) := by decide +kernel
theorem dX10_bench_39 : decode cX10_bench 39 = .ok (.iconst (-1), 1) := by decide +kernel
theorem dX10_bench_40 : decode cX10_bench 40 = .ok (.ireturn, 1) := by decide +kernel
theorem dX10_bench_41 : decode cX10_bench 41 = .ok (.aload_n 0, 1) := by decide +kernel
theorem dX10_bench_42 : decode cX10_bench 42 = .ok (.iconst 0, 1) := by decide +kernel
theorem dX10_bench_43 : decode cX10_bench 43 = .ok (.putfield 131, 3) := by decide +kernel
theorem dX10_bench_46 : decode cX10_bench 46 = .ok (.aload_n 0, 1) := by decide +kernel
theorem dX10_bench_47 : decode cX10_bench 47 = .ok (.iload_n 1, 1) := by decide +kernel
theorem dX10_bench_48 : decode cX10_bench 48 = .ok (.iload_n 2, 1) := by decide +kernel
theorem dX10_bench_49 : decode cX10_bench 49 = .ok (.invokevirtual 369, 3) := by decide +kernel
theorem dX10_bench_52 : decode cX10_bench 52 = .ok (.ifCond .ne 6, 3) := by decide +kernel
theorem dX10_bench_55 : decode cX10_bench 55 = .ok (.bipush (-3), 2) := by decide +kernel
theorem dX10_bench_57 : decode cX10_bench 57 = .ok (.ireturn, 1) := by decide +kernel
theorem dX10_bench_58 : decode cX10_bench 58 = .ok (.bipush (-2), 2) := by decide +kernel
theorem dX10_bench_60 : decode cX10_bench 60 = .ok (.istore 4, 2) := by decide +kernel
theorem dX10_bench_62 : decode cX10_bench 62 = .ok (.iconst 0, 1) := by decide +kernel
theorem dX10_bench_63 : decode cX10_bench 63 = .ok (.istore 5, 2) := by decide +kernel
theorem dX10_bench_65 : decode cX10_bench 65 = .ok (.iconst 0, 1) := by decide +kernel
theorem dX10_bench_66 : decode cX10_bench 66 = .ok (.istore 6, 2) := by decide +kernel
theorem dX10_bench_68 : decode cX10_bench 68 = .ok (.iconst 0, 1) := by decide +kernel
theorem dX10_bench_69 : decode cX10_bench 69 = .ok (.istore 7, 2) := by decide +kernel
theorem dX10_bench_71 : decode cX10_bench 71 = .ok (.iload 7, 2) := by decide +kernel
theorem dX10_bench_73 : decode cX10_bench 73 = .ok (.iload_n 1, 1) := by decide +kernel
theorem dX10_bench_74 : decode cX10_bench 74 = .ok (.if_icmp .ge 79, 3) := by decide +kernel
theorem dX10_bench_77 : decode cX10_bench 77 = .ok (.aload_n 0, 1) := by decide +kernel
theorem dX10_bench_78 : decode cX10_bench 78 = .ok (.iload 7, 2) := by decide +kernel
theorem dX10_bench_80 : decode cX10_bench 80 = .ok (.iload_n 1, 1) := by decide +kernel
theorem dX10_bench_81 : decode cX10_bench 81 = .ok (.iload_n 2, 1) := by decide +kernel
theorem dX10_bench_82 : decode cX10_bench 82 = .ok (.invokevirtual 372, 3) := by decide +kernel
theorem dX10_bench_85 : decode cX10_bench 85 = .ok (.ifCond .eq 7, 3) := by decide +kernel
theorem dX10_bench_88 : decode cX10_bench 88 = .ok (.iload 7, 2) := by decide +kernel
theorem dX10_bench_90 : decode cX10_bench 90 = .ok (.istore 4, 2) := by decide +kernel
theorem dX10_bench_92 : decode cX10_bench 92 = .ok (.aload_n 0, 1) := by decide +kernel
theorem dX10_bench_93 : decode cX10_bench 93 = .ok (.iload 7, 2) := by decide +kernel
theorem dX10_bench_95 : decode cX10_bench 95 = .ok (.iload_n 2, 1) := by decide +kernel
theorem dX10_bench_96 : decode cX10_bench 96 = .ok (.invokevirtual 375, 3) := by decide +kernel
theorem dX10_bench_99 : decode cX10_bench 99 = .ok (.aload_n 0, 1) := by decide +kernel
theorem dX10_bench_100 : decode cX10_bench 100 = .ok (.iload 5, 2) := by decide +kernel
theorem dX10_bench_102 : decode cX10_bench 102 = .ok (.iload_n 2, 1) := by decide +kernel
theorem dX10_bench_103 : decode cX10_bench 103 = .ok (.invokevirtual 375, 3) := by decide +kernel
theorem dX10_bench_106 : decode cX10_bench 106 = .ok (.if_icmp .ge 7, 3) := by decide +kernel
theorem dX10_bench_109 : decode cX10_bench 109 = .ok (.iload 7, 2) := by decide +kernel
theorem dX10_bench_111 : decode cX10_bench 111 = .ok (.istore 5, 2) := by decide +kernel
theorem dX10_bench_113 : decode cX10_bench 113 = .ok (.iconst 0, 1) := by decide +kernel
theorem dX10_bench_114 : decode cX10_bench 114 = .ok (.istore 8, 2) := by decide +kernel
theorem dX10_bench_116 : decode cX10_bench 116 = .ok (.iload 8, 2) := by decide +kernel
theorem dX10_bench_118 : decode cX10_bench 118 = .ok (.iload 7, 2) := by decide +kernel
theorem dX10_bench_120 : decode cX10_bench 120 = .ok (.if_icmp .ge 27, 3) := by decide +kernel
theorem dX10_bench_123 : decode cX10_bench 123 = .ok (.aload_n 0, 1) := by decide +kernel
theorem dX10_bench_124 : decode cX10_bench 124 = .ok (.iload 7, 2) := by decide +kernel
theorem dX10_bench_126 : decode cX10_bench 126 = .ok (.iload 8, 2) := by decide +kernel
theorem dX10_bench_128 : decode cX10_bench 128 = .ok (.iload_n 2, 1) := by decide +kernel
theorem dX10_bench_129 : decode cX10_bench 129 = .ok (.invokevirtual 366, 3) := by decide +kernel
theorem dX10_bench_132 : decode cX10_bench 132 = .ok (.ifCond .ne 9, 3) := by decide +kernel
theorem dX10_bench_135 : decode cX10_bench 135 = .ok (.iload 6, 2) := by decide +kernel
theorem dX10_bench_137 : decode cX10_bench 137 = .ok (.iconst 1, 1) := by decide +kernel
theorem dX10_bench_138 : decode cX10_bench 138 = .ok (.iadd, 1) := by decide +kernel
theorem dX10_bench_139 : decode cX10_bench 139 = .ok (.istore 6, 2) := by decide +kernel
theorem dX10_bench_141 : decode cX10_bench 141 = .ok (.iinc 8 1, 3) := by decide +kernel
theorem dX10_bench_144 : decode cX10_bench 144 = .ok (.goto (-28), 3) := by decide +kernel
theorem dX10_bench_147 : decode cX10_bench 147 = .ok (.iinc 7 1, 3) := by decide +kernel
theorem dX10_bench_150 : decode cX10_bench 150 = .ok (.goto (-79), 3) := by decide +kernel
theorem dX10_bench_153 : decode cX10_bench 153 = .ok (.iload_n 3, 1) := by decide +kernel
theorem dX10_bench_154 : decode cX10_bench 154 = .ok (.ifCond .ne 8, 3) := by decide +kernel
theorem dX10_bench_157 : decode cX10_bench 157 = .ok (.iload 4, 2) := by decide +kernel
theorem dX10_bench_159 : decode cX10_bench 159 = .ok (.goto 15, 3) := by decide +kernel
theorem dX10_bench_162 : decode cX10_bench 162 = .ok (.iload_n 3, 1) := by decide +kernel
theorem dX10_bench_163 : decode cX10_bench 163 = .ok (.iconst 1, 1) := by decide +kernel
theorem dX10_bench_164 : decode cX10_bench 164 = .ok (.if_icmp .ne 8, 3) := by decide +kernel
theorem dX10_bench_167 : decode cX10_bench 167 = .ok (.iload 5, 2) := by decide +kernel
theorem dX10_bench_169 : decode cX10_bench 169 = .ok (.goto 5, 3) := by decide +kernel
theorem dX10_bench_172 : decode cX10_bench 172 = .ok (.iload 6, 2) := by decide +kernel
theorem dX10_bench_174 : decode cX10_bench 174 = .ok (.ireturn, 1) := by decide +kernel
theorem dX10_beats_0 : decode cX10_beats 0 = .ok (.aload_n 0, 1) := by decide +kernel
theorem dX10_beats_1 : decode cX10_beats 1 = .ok (.iconst 2, 1) := by decide +kernel
theorem dX10_beats_2 : decode cX10_beats 2 = .ok (.iload_n 1, 1) := by decide +kernel
theorem dX10_beats_3 : decode cX10_beats 3 = .ok (.imul, 1) := by decide +kernel
theorem dX10_beats_4 : decode cX10_beats 4 = .ok (.invokevirtual 360, 3) := by decide +kernel
theorem dX10_beats_7 : decode cX10_beats 7 = .ok (.aload_n 0, 1) := by decide +kernel
theorem dX10_beats_8 : decode cX10_beats 8 = .ok (.iconst 2, 1) := by decide +kernel
theorem dX10_beats_9 : decode cX10_beats 9 = .ok (.iload_n 2, 1) := by decide +kernel
theorem dX10_beats_10 : decode cX10_beats 10 = .ok (.imul, 1) := by decide +kernel
theorem dX10_beats_11 : decode cX10_beats 11 = .ok (.invokevirtual 360, 3) := by decide +kernel
theorem dX10_beats_14 : decode cX10_beats 14 = .ok (.isub, 1) := by decide +kernel
theorem dX10_beats_15 : decode cX10_beats 15 = .ok (.istore_n 3, 1) := by decide +kernel
theorem dX10_beats_16 : decode cX10_beats 16 = .ok (.aload_n 0, 1) := by decide +kernel
theorem dX10_beats_17 : decode cX10_beats 17 = .ok (.iconst 2, 1) := by decide +kernel
theorem dX10_beats_18 : decode cX10_beats 18 = .ok (.iload_n 1, 1) := by decide +kernel
theorem dX10_beats_19 : decode cX10_beats 19 = .ok (.imul, 1) := by decide +kernel
theorem dX10_beats_20 : decode cX10_beats 20 = .ok (.iconst 1, 1) := by decide +kernel
theorem dX10_beats_21 : decode cX10_beats 21 = .ok (.iadd, 1) := by decide +kernel
theorem dX10_beats_22 : decode cX10_beats 22 = .ok (.invokevirtual 360, 3) := by decide +kernel
theorem dX10_beats_25 : decode cX10_beats 25 = .ok (.aload_n 0, 1) := by decide +kernel
theorem dX10_beats_26 : decode cX10_beats 26 = .ok (.iconst 2, 1) := by decide +kernel
theorem dX10_beats_27 : decode cX10_beats 27 = .ok (.iload_n 2, 1) := by decide +kernel
theorem dX10_beats_28 : decode cX10_beats 28 = .ok (.imul, 1) := by decide +kernel
theorem dX10_beats_29 : decode cX10_beats 29 = .ok (.iconst 1, 1) := by decide +kernel
theorem dX10_beats_30 : decode cX10_beats 30 = .ok (.iadd, 1) := by decide +kernel
theorem dX10_beats_31 : decode cX10_beats 31 = .ok (.invokevirtual 360, 3) := by decide +kernel
theorem dX10_beats_34 : decode cX10_beats 34 = .ok (.isub, 1) := by decide +kernel
theorem dX10_beats_35 : decode cX10_beats 35 = .ok (.istore 4, 2) := by decide +kernel
theorem dX10_beats_37 : decode cX10_beats 37 = .ok (.iload_n 3, 1) := by decide +kernel
theorem dX10_beats_38 : decode cX10_beats 38 = .ok (.ifCond .lt 19, 3) := by decide +kernel
theorem dX10_beats_41 : decode cX10_beats 41 = .ok (.iload 4, 2) := by decide +kernel
theorem dX10_beats_43 : decode cX10_beats 43 = .ok (.ifCond .lt 14, 3) := by decide +kernel
theorem dX10_beats_46 : decode cX10_beats 46 = .ok (.iload_n 3, 1) := by decide +kernel
theorem dX10_beats_47 : decode cX10_beats 47 = .ok (.iload 4, 2) := by decide +kernel
theorem dX10_beats_49 : decode cX10_beats 49 = .ok (.iadd, 1) := by decide +kernel
theorem dX10_beats_50 : decode cX10_beats 50 = .ok (.ifCond .le 7, 3) := by decide +kernel
theorem dX10_beats_53 : decode cX10_beats 53 = .ok (.iconst 1, 1) := by decide +kernel
theorem dX10_beats_54 : decode cX10_beats 54 = .ok (.goto 4, 3) := by decide +kernel
theorem dX10_beats_57 : decode cX10_beats 57 = .ok (.iconst 0, 1) := by decide +kernel
theorem dX10_beats_58 : decode cX10_beats 58 = .ok (.ireturn, 1) := by decide +kernel
theorem dX10_likely_0 : decode cX10_likely 0 = .ok (.iload_n 1, 1) := by decide +kernel
theorem dX10_likely_1 : decode cX10_likely 1 = .ok (.iconst 1, 1) := by decide +kernel
theorem dX10_likely_2 : decode cX10_likely 2 = .ok (.bipush 16, 2) := by decide +kernel
theorem dX10_likely_4 : decode cX10_likely 4 = .ok (.invokestatic 112, 3) := by decide +kernel
theorem dX10_likely_7 : decode cX10_likely 7 = .ok (.ifCond .eq 22, 3) := by decide +kernel
theorem dX10_likely_10 : decode cX10_likely 10 = .ok (.iload_n 2, 1) := by decide +kernel
theorem dX10_likely_11 : decode cX10_likely 11 = .ok (.iconst 0, 1) := by decide +kernel
theorem dX10_likely_12 : decode cX10_likely 12 = .ok (.iconst 2, 1) := by decide +kernel
theorem dX10_likely_13 : decode cX10_likely 13 = .ok (.invokestatic 112, 3) := by decide +kernel
theorem dX10_likely_16 : decode cX10_likely 16 = .ok (.ifCond .eq 13, 3) := by decide +kernel
theorem dX10_likely_19 : decode cX10_likely 19 = .ok (.iconst 2, 1) := by decide +kernel
theorem dX10_likely_20 : decode cX10_likely 20 = .ok (.iload_n 1, 1) := by decide +kernel
theorem dX10_likely_21 : decode cX10_likely 21 = .ok (.imul, 1) := by decide +kernel
theorem dX10_likely_22 : decode cX10_likely 22 = .ok (.aload_n 0, 1) := by decide +kernel
theorem dX10_likely_23 : decode cX10_likely 23 = .ok (.getfield 131, 3) := by decide +kernel
theorem dX10_likely_26 : decode cX10_likely 26 = .ok (.if_icmp .le 5, 3) := by decide +kernel
theorem dX10_likely_29 : decode cX10_likely 29 = .ok (.iconst (-1), 1) := by decide +kernel
theorem dX10_likely_30 : decode cX10_likely 30 = .ok (.ireturn, 1) := by decide +kernel
theorem dX10_likely_31 : decode cX10_likely 31 = .ok (.aload_n 0, 1) := by decide +kernel
theorem dX10_likely_32 : decode cX10_likely 32 = .ok (.iconst 0, 1) := by decide +kernel
theorem dX10_likely_33 : decode cX10_likely 33 = .ok (.putfield 131, 3) := by decide +kernel
theorem dX10_likely_36 : decode cX10_likely 36 = .ok (.iconst 0, 1) := by decide +kernel
theorem dX10_likely_37 : decode cX10_likely 37 = .ok (.istore_n 3, 1) := by decide +kernel
theorem dX10_likely_38 : decode cX10_likely 38 = .ok (.iconst (-1), 1) := by decide +kernel
theorem dX10_likely_39 : decode cX10_likely 39 = .ok (.istore 4, 2) := by decide +kernel
theorem dX10_likely_41 : decode cX10_likely 41 = .ok (.iconst 0, 1) := by decide +kernel
theorem dX10_likely_42 : decode cX10_likely 42 = .ok (.istore 5, 2) := by decide +kernel
theorem dX10_likely_44 : decode cX10_likely 44 = .ok (.iconst 0, 1) := by decide +kernel
theorem dX10_likely_45 : decode cX10_likely 45 = .ok (.istore 6, 2) := by decide +kernel
theorem dX10_likely_47 : decode cX10_likely 47 = .ok (.iload 6, 2) := by decide +kernel
theorem dX10_likely_49 : decode cX10_likely 49 = .ok (.iload_n 1, 1) := by decide +kernel
theorem dX10_likely_50 : decode cX10_likely 50 = .ok (.if_icmp .ge 92, 3) := by decide +kernel
theorem dX10_likely_53 : decode cX10_likely 53 = .ok (.iconst 0, 1) := by decide +kernel
theorem dX10_likely_54 : decode cX10_likely 54 = .ok (.istore 7, 2) := by decide +kernel
theorem dX10_likely_56 : decode cX10_likely 56 = .ok (.iconst 0, 1) := by decide +kernel
theorem dX10_likely_57 : decode cX10_likely 57 = .ok (.istore 8, 2) := by decide +kernel
theorem dX10_likely_59 : decode cX10_likely 59 = .ok (.iload 8, 2) := by decide +kernel
theorem dX10_likely_61 : decode cX10_likely 61 = .ok (.iload_n 1, 1) := by decide +kernel
theorem dX10_likely_62 : decode cX10_likely 62 = .ok (.if_icmp .ge 23, 3) := by decide +kernel
theorem dX10_likely_65 : decode cX10_likely 65 = .ok (.aload_n 0, 1) := by decide +kernel
theorem dX10_likely_66 : decode cX10_likely 66 = .ok (.iload 8, 2) := by decide +kernel
theorem dX10_likely_68 : decode cX10_likely 68 = .ok (.iload 6, 2) := by decide +kernel
theorem dX10_likely_70 : decode cX10_likely 70 = .ok (.invokevirtual 378, 3) := by decide +kernel
theorem dX10_likely_73 : decode cX10_likely 73 = .ok (.ifCond .eq 6, 3) := by decide +kernel
theorem dX10_likely_76 : decode cX10_likely 76 = .ok (.iconst 1, 1) := by decide +kernel
theorem dX10_likely_77 : decode cX10_likely 77 = .ok (.istore 7, 2) := by decide +kernel
theorem dX10_likely_79 : decode cX10_likely 79 = .ok (.iinc 8 1, 3) := by decide +kernel
theorem dX10_likely_82 : decode cX10_likely 82 = .ok (.goto (-23), 3) := by decide +kernel
theorem dX10_likely_85 : decode cX10_likely 85 = .ok (.iload 7, 2) := by decide +kernel
theorem dX10_likely_87 : decode cX10_likely 87 = .ok (.ifCond .ne 10, 3) := by decide +kernel
theorem dX10_likely_90 : decode cX10_likely 90 = .ok (.iload_n 3, 1) := by decide +kernel
theorem dX10_likely_91 : decode cX10_likely 91 = .ok (.iconst 1, 1) := by decide +kernel
theorem dX10_likely_92 : decode cX10_likely 92 = .ok (.iload 6, 2) := by decide +kernel
theorem dX10_likely_94 : decode cX10_likely 94 = .ok (.ishl, 1) := by decide +kernel
theorem dX10_likely_95 : decode cX10_likely 95 = .ok (.ior, 1) := by decide +kernel
theorem dX10_likely_96 : decode cX10_likely 96 = .ok (.istore_n 3, 1) := by decide +kernel
theorem dX10_likely_97 : decode cX10_likely 97 = .ok (.aload_n 0, 1) := by decide +kernel
theorem dX10_likely_98 : decode cX10_likely 98 = .ok (.iconst 2, 1) := by decide +kernel
theorem dX10_likely_99 : decode cX10_likely 99 = .ok (.iload 6, 2) := by decide +kernel
theorem dX10_likely_101 : decode cX10_likely 101 = .ok (.imul, 1) := by decide +kernel
theorem dX10_likely_102 : decode cX10_likely 102 = .ok (.invokevirtual 360, 3) := by decide +kernel
theorem dX10_likely_105 : decode cX10_likely 105 = .ok (.aload_n 0, 1) := by decide +kernel
theorem dX10_likely_106 : decode cX10_likely 106 = .ok (.iconst 2, 1) := by decide +kernel
theorem dX10_likely_107 : decode cX10_likely 107 = .ok (.iload 6, 2) := by decide +kernel
theorem dX10_likely_109 : decode cX10_likely 109 = .ok (.imul, 1) := by decide +kernel
theorem dX10_likely_110 : decode cX10_likely 110 = .ok (.iconst 1, 1) := by decide +kernel
theorem dX10_likely_111 : decode cX10_likely 111 = .ok (.iadd, 1) := by decide +kernel
theorem dX10_likely_112 : decode cX10_likely 112 = .ok (.invokevirtual 360, 3) := by decide +kernel
theorem dX10_likely_115 : decode cX10_likely 115 = .ok (.imul, 1) := by decide +kernel
theorem dX10_likely_116 : decode cX10_likely 116 = .ok (.istore 8, 2) := by decide +kernel
theorem dX10_likely_118 : decode cX10_likely 118 = .ok (.iload 8, 2) := by decide +kernel
theorem dX10_likely_120 : decode cX10_likely 120 = .ok (.iload 4, 2) := by decide +kernel
theorem dX10_likely_122 : decode cX10_likely 122 = .ok (.if_icmp .gt 6, 3) := by decide +kernel
theorem dX10_likely_125 : decode cX10_likely 125 = .ok (.goto 11, 3) := by decide +kernel
theorem dX10_likely_128 : decode cX10_likely 128 = .ok (.iload 8, 2) := by decide +kernel
theorem dX10_likely_130 : decode cX10_likely 130 = .ok (.istore 4, 2) := by decide +kernel
theorem dX10_likely_132 : decode cX10_likely 132 = .ok (.iload 6, 2) := by decide +kernel
theorem dX10_likely_134 : decode cX10_likely 134 = .ok (.istore 5, 2) := by decide +kernel
theorem dX10_likely_136 : decode cX10_likely 136 = .ok (.iinc 6 1, 3) := by decide +kernel
theorem dX10_likely_139 : decode cX10_likely 139 = .ok (.goto (-92), 3) := by decide +kernel
theorem dX10_likely_142 : decode cX10_likely 142 = .ok (.iload_n 2, 1) := by decide +kernel
theorem dX10_likely_143 : decode cX10_likely 143 = .ok (.ifCond .ne 7, 3) := by decide +kernel
theorem dX10_likely_146 : decode cX10_likely 146 = .ok (.iload_n 3, 1) := by decide +kernel
theorem dX10_likely_147 : decode cX10_likely 147 = .ok (.goto 15, 3) := by decide +kernel
theorem dX10_likely_150 : decode cX10_likely 150 = .ok (.iload_n 2, 1) := by decide +kernel
theorem dX10_likely_151 : decode cX10_likely 151 = .ok (.iconst 1, 1) := by decide +kernel
theorem dX10_likely_152 : decode cX10_likely 152 = .ok (.if_icmp .ne 8, 3) := by decide +kernel
theorem dX10_likely_155 : decode cX10_likely 155 = .ok (.iload 4, 2) := by decide +kernel
theorem dX10_likely_157 : decode cX10_likely 157 = .ok (.goto 5, 3) := by decide +kernel
theorem dX10_likely_160 : decode cX10_likely 160 = .ok (.iload 5, 2) := by decide +kernel
theorem dX10_likely_162 : decode cX10_likely 162 = .ok (.ireturn, 1) := by decide +kernel
theorem dX10_share_0 : decode cX10_share 0 = .ok (.iload_n 1, 1) := by decide +kernel
theorem dX10_share_1 : decode cX10_share 1 = .ok (.iconst 1, 1) := by decide +kernel
theorem dX10_share_2 : decode cX10_share 2 = .ok (.bipush 12, 2) := by decide +kernel
theorem dX10_share_4 : decode cX10_share 4 = .ok (.invokestatic 112, 3) := by decide +kernel
theorem dX10_share_7 : decode cX10_share 7 = .ok (.ifCond .eq 23, 3) := by decide +kernel
theorem dX10_share_10 : decode cX10_share 10 = .ok (.iload_n 2, 1) := by decide +kernel
theorem dX10_share_11 : decode cX10_share 11 = .ok (.iconst 0, 1) := by decide +kernel
theorem dX10_share_12 : decode cX10_share 12 = .ok (.bipush 7, 2) := by decide +kernel
theorem dX10_share_14 : decode cX10_share 14 = .ok (.invokestatic 112, 3) := by decide +kernel
theorem dX10_share_17 : decode cX10_share 17 = .ok (.ifCond .eq 13, 3) := by decide +kernel
theorem dX10_share_20 : decode cX10_share 20 = .ok (.iconst 2, 1) := by decide +kernel
theorem dX10_share_21 : decode cX10_share 21 = .ok (.iload_n 1, 1) := by decide +kernel
theorem dX10_share_22 : decode cX10_share 22 = .ok (.imul, 1) := by decide +kernel
theorem dX10_share_23 : decode cX10_share 23 = .ok (.aload_n 0, 1) := by decide +kernel
theorem dX10_share_24 : decode cX10_share 24 = .ok (.getfield 131, 3) := by decide +kernel
theorem dX10_share_27 : decode cX10_share 27 = .ok (.if_icmp .le 5, 3) := by decide +kernel
theorem dX10_share_30 : decode cX10_share 30 = .ok (.iconst (-1), 1) := by decide +kernel
theorem dX10_share_31 : decode cX10_share 31 = .ok (.ireturn, 1) := by decide +kernel
theorem dX10_share_32 : decode cX10_share 32 = .ok (.aload_n 0, 1) := by decide +kernel
theorem dX10_share_33 : decode cX10_share 33 = .ok (.iconst 0, 1) := by decide +kernel
theorem dX10_share_34 : decode cX10_share 34 = .ok (.putfield 131, 3) := by decide +kernel
theorem dX10_share_37 : decode cX10_share 37 = .ok (.iconst 0, 1) := by decide +kernel
theorem dX10_share_38 : decode cX10_share 38 = .ok (.istore_n 3, 1) := by decide +kernel
theorem dX10_share_39 : decode cX10_share 39 = .ok (.iconst 0, 1) := by decide +kernel
theorem dX10_share_40 : decode cX10_share 40 = .ok (.istore 4, 2) := by decide +kernel
theorem dX10_share_42 : decode cX10_share 42 = .ok (.iload 4, 2) := by decide +kernel
theorem dX10_share_44 : decode cX10_share 44 = .ok (.iload_n 1, 1) := by decide +kernel
theorem dX10_share_45 : decode cX10_share 45 = .ok (.if_icmp .ge 89, 3) := by decide +kernel
theorem dX10_share_48 : decode cX10_share 48 = .ok (.aload_n 0, 1) := by decide +kernel
theorem dX10_share_49 : decode cX10_share 49 = .ok (.iconst 2, 1) := by decide +kernel
theorem dX10_share_50 : decode cX10_share 50 = .ok (.iload 4, 2) := by decide +kernel
theorem dX10_share_52 : decode cX10_share 52 = .ok (.imul, 1) := by decide +kernel
theorem dX10_share_53 : decode cX10_share 53 = .ok (.iconst 1, 1) := by decide +kernel
theorem dX10_share_54 : decode cX10_share 54 = .ok (.iadd, 1) := by decide +kernel
theorem dX10_share_55 : decode cX10_share 55 = .ok (.invokevirtual 360, 3) := by decide +kernel
theorem dX10_share_58 : decode cX10_share 58 = .ok (.istore 5, 2) := by decide +kernel
theorem dX10_share_60 : decode cX10_share 60 = .ok (.iload 5, 2) := by decide +kernel
theorem dX10_share_62 : decode cX10_share 62 = .ok (.iload_n 2, 1) := by decide +kernel
theorem dX10_share_63 : decode cX10_share 63 = .ok (.invokestatic 120, 3) := by decide +kernel
theorem dX10_share_66 : decode cX10_share 66 = .ok (.ifCond .ne 6, 3) := by decide +kernel
theorem dX10_share_69 : decode cX10_share 69 = .ok (.goto 59, 3) := by decide +kernel
theorem dX10_share_72 : decode cX10_share 72 = .ok (.iload 5, 2) := by decide +kernel
theorem dX10_share_74 : decode cX10_share 74 = .ok (.invokestatic 244, 3) := by decide +kernel
theorem dX10_share_77 : decode cX10_share 77 = .ok (.istore 6, 2) := by decide +kernel
theorem dX10_share_79 : decode cX10_share 79 = .ok (.iload 5, 2) := by decide +kernel
theorem dX10_share_81 : decode cX10_share 81 = .ok (.iconst 1, 1) := by decide +kernel
theorem dX10_share_82 : decode cX10_share 82 = .ok (.iload_n 2, 1) := by decide +kernel
theorem dX10_share_83 : decode cX10_share 83 = .ok (.ishl, 1) := by decide +kernel
theorem dX10_share_84 : decode cX10_share 84 = .ok (.iconst 1, 1) := by decide +kernel
theorem dX10_share_85 : decode cX10_share 85 = .ok (.isub, 1) := by decide +kernel
theorem dX10_share_86 : decode cX10_share 86 = .ok (.iand, 1) := by decide +kernel
theorem dX10_share_87 : decode cX10_share 87 = .ok (.invokestatic 244, 3) := by decide +kernel
theorem dX10_share_90 : decode cX10_share 90 = .ok (.istore 7, 2) := by decide +kernel
theorem dX10_share_92 : decode cX10_share 92 = .ok (.iload_n 3, 1) := by decide +kernel
theorem dX10_share_93 : decode cX10_share 93 = .ok (.aload_n 0, 1) := by decide +kernel
theorem dX10_share_94 : decode cX10_share 94 = .ok (.iconst 2, 1) := by decide +kernel
theorem dX10_share_95 : decode cX10_share 95 = .ok (.iload 4, 2) := by decide +kernel
theorem dX10_share_97 : decode cX10_share 97 = .ok (.imul, 1) := by decide +kernel
theorem dX10_share_98 : decode cX10_share 98 = .ok (.invokevirtual 360, 3) := by decide +kernel
theorem dX10_share_101 : decode cX10_share 101 = .ok (.iload 6, 2) := by decide +kernel
theorem dX10_share_103 : decode cX10_share 103 = .ok (.idiv, 1) := by decide +kernel
theorem dX10_share_104 : decode cX10_share 104 = .ok (.iadd, 1) := by decide +kernel
theorem dX10_share_105 : decode cX10_share 105 = .ok (.iload 7, 2) := by decide +kernel
theorem dX10_share_107 : decode cX10_share 107 = .ok (.aload_n 0, 1) := by decide +kernel
theorem dX10_share_108 : decode cX10_share 108 = .ok (.iconst 2, 1) := by decide +kernel
theorem dX10_share_109 : decode cX10_share 109 = .ok (.iload 4, 2) := by decide +kernel
theorem dX10_share_111 : decode cX10_share 111 = .ok (.imul, 1) := by decide +kernel
theorem dX10_share_112 : decode cX10_share 112 = .ok (.invokevirtual 360, 3) := by decide +kernel
theorem dX10_share_115 : decode cX10_share 115 = .ok (.iload 6, 2) := by decide +kernel
theorem dX10_share_117 : decode cX10_share 117 = .ok (.irem, 1) := by decide +kernel
theorem dX10_share_118 : decode cX10_share 118 = .ok (.if_icmp .ge 7, 3) := by decide +kernel
theorem dX10_share_121 : decode cX10_share 121 = .ok (.iconst 1, 1) := by decide +kernel
theorem dX10_share_122 : decode cX10_share 122 = .ok (.goto 4, 3) := by decide +kernel
theorem dX10_share_125 : decode cX10_share 125 = .ok (.iconst 0, 1) := by decide +kernel
theorem dX10_share_126 : decode cX10_share 126 = .ok (.iadd, 1) := by decide +kernel
theorem dX10_share_127 : decode cX10_share 127 = .ok (.istore_n 3, 1) := by decide +kernel
theorem dX10_share_128 : decode cX10_share 128 = .ok (.iinc 4 1, 3) := by decide +kernel
theorem dX10_share_131 : decode cX10_share 131 = .ok (.goto (-89), 3) := by decide +kernel
theorem dX10_share_134 : decode cX10_share 134 = .ok (.iload_n 3, 1) := by decide +kernel
theorem dX10_share_135 : decode cX10_share 135 = .ok (.ireturn, 1) := by decide +kernel
theorem dX10_gcd_0 : decode cX10_gcd 0 = .ok (.iload_n 0, 1) := by decide +kernel
theorem dX10_gcd_1 : decode cX10_gcd 1 = .ok (.istore_n 2, 1) := by decide +kernel
theorem dX10_gcd_2 : decode cX10_gcd 2 = .ok (.iload_n 1, 1) := by decide +kernel
theorem dX10_gcd_3 : decode cX10_gcd 3 = .ok (.istore_n 3, 1) := by decide +kernel
theorem dX10_gcd_4 : decode cX10_gcd 4 = .ok (.iload_n 3, 1) := by decide +kernel
theorem dX10_gcd_5 : decode cX10_gcd 5 = .ok (.ifCond .eq 16, 3) := by decide +kernel
theorem dX10_gcd_8 : decode cX10_gcd 8 = .ok (.iload_n 2, 1) := by decide +kernel
theorem dX10_gcd_9 : decode cX10_gcd 9 = .ok (.iload_n 3, 1) := by decide +kernel
theorem dX10_gcd_10 : decode cX10_gcd 10 = .ok (.irem, 1) := by decide +kernel
theorem dX10_gcd_11 : decode cX10_gcd 11 = .ok (.istore 4, 2) := by decide +kernel
theorem dX10_gcd_13 : decode cX10_gcd 13 = .ok (.iload_n 3, 1) := by decide +kernel
theorem dX10_gcd_14 : decode cX10_gcd 14 = .ok (.istore_n 2, 1) := by decide +kernel
theorem dX10_gcd_15 : decode cX10_gcd 15 = .ok (.iload 4, 2) := by decide +kernel
theorem dX10_gcd_17 : decode cX10_gcd 17 = .ok (.istore_n 3, 1) := by decide +kernel
theorem dX10_gcd_18 : decode cX10_gcd 18 = .ok (.goto (-14), 3) := by decide +kernel
theorem dX10_gcd_21 : decode cX10_gcd 21 = .ok (.iload_n 2, 1) := by decide +kernel
theorem dX10_gcd_22 : decode cX10_gcd 22 = .ok (.ireturn, 1) := by decide +kernel
theorem dX10_odds_0 : decode cX10_odds 0 = .ok (.iload_n 1, 1) := by decide +kernel
theorem dX10_odds_1 : decode cX10_odds 1 = .ok (.iconst 1, 1) := by decide +kernel
theorem dX10_odds_2 : decode cX10_odds 2 = .ok (.bipush 9, 2) := by decide +kernel
theorem dX10_odds_4 : decode cX10_odds 4 = .ok (.invokestatic 112, 3) := by decide +kernel
theorem dX10_odds_7 : decode cX10_odds 7 = .ok (.ifCond .eq 20, 3) := by decide +kernel
theorem dX10_odds_10 : decode cX10_odds 10 = .ok (.iload_n 2, 1) := by decide +kernel
theorem dX10_odds_11 : decode cX10_odds 11 = .ok (.iconst 0, 1) := by decide +kernel
theorem dX10_odds_12 : decode cX10_odds 12 = .ok (.iconst 5, 1) := by decide +kernel
theorem dX10_odds_13 : decode cX10_odds 13 = .ok (.invokestatic 112, 3) := by decide +kernel
theorem dX10_odds_16 : decode cX10_odds 16 = .ok (.ifCond .eq 11, 3) := by decide +kernel
theorem dX10_odds_19 : decode cX10_odds 19 = .ok (.iload_n 1, 1) := by decide +kernel
theorem dX10_odds_20 : decode cX10_odds 20 = .ok (.aload_n 0, 1) := by decide +kernel
theorem dX10_odds_21 : decode cX10_odds 21 = .ok (.getfield 131, 3) := by decide +kernel
theorem dX10_odds_24 : decode cX10_odds 24 = .ok (.if_icmp .le 5, 3) := by decide +kernel
theorem dX10_odds_27 : decode cX10_odds 27 = .ok (.iconst (-1), 1) := by decide +kernel
theorem dX10_odds_28 : decode cX10_odds 28 = .ok (.ireturn, 1) := by decide +kernel
theorem dX10_odds_29 : decode cX10_odds 29 = .ok (.aload_n 0, 1) := by decide +kernel
theorem dX10_odds_30 : decode cX10_odds 30 = .ok (.iconst 0, 1) := by decide +kernel
theorem dX10_odds_31 : decode cX10_odds 31 = .ok (.putfield 131, 3) := by decide +kernel
theorem dX10_odds_34 : decode cX10_odds 34 = .ok (.iconst 1, 1) := by decide +kernel
theorem dX10_odds_35 : decode cX10_odds 35 = .ok (.istore_n 3, 1) := by decide +kernel
theorem dX10_odds_36 : decode cX10_odds 36 = .ok (.iconst 1, 1) := by decide +kernel
theorem dX10_odds_37 : decode cX10_odds 37 = .ok (.istore 4, 2) := by decide +kernel
theorem dX10_odds_39 : decode cX10_odds 39 = .ok (.iconst 1, 1) := by decide +kernel
theorem dX10_odds_40 : decode cX10_odds 40 = .ok (.istore 5, 2) := by decide +kernel
theorem dX10_odds_42 : decode cX10_odds 42 = .ok (.iconst 0, 1) := by decide +kernel
theorem dX10_odds_43 : decode cX10_odds 43 = .ok (.istore 6, 2) := by decide +kernel
theorem dX10_odds_45 : decode cX10_odds 45 = .ok (.iload 6, 2) := by decide +kernel
theorem dX10_odds_47 : decode cX10_odds 47 = .ok (.iload_n 1, 1) := by decide +kernel
theorem dX10_odds_48 : decode cX10_odds 48 = .ok (.if_icmp .ge 53, 3) := by decide +kernel
theorem dX10_odds_51 : decode cX10_odds 51 = .ok (.aload_n 0, 1) := by decide +kernel
theorem dX10_odds_52 : decode cX10_odds 52 = .ok (.iload 6, 2) := by decide +kernel
theorem dX10_odds_54 : decode cX10_odds 54 = .ok (.invokevirtual 360, 3) := by decide +kernel
theorem dX10_odds_57 : decode cX10_odds 57 = .ok (.bipush 10, 2) := by decide +kernel
theorem dX10_odds_59 : decode cX10_odds 59 = .ok (.if_icmp .le 6, 3) := by decide +kernel
theorem dX10_odds_62 : decode cX10_odds 62 = .ok (.bipush (-2), 2) := by decide +kernel
theorem dX10_odds_64 : decode cX10_odds 64 = .ok (.ireturn, 1) := by decide +kernel
theorem dX10_odds_65 : decode cX10_odds 65 = .ok (.iload_n 3, 1) := by decide +kernel
theorem dX10_odds_66 : decode cX10_odds 66 = .ok (.bipush 10, 2) := by decide +kernel
theorem dX10_odds_68 : decode cX10_odds 68 = .ok (.imul, 1) := by decide +kernel
theorem dX10_odds_69 : decode cX10_odds 69 = .ok (.istore_n 3, 1) := by decide +kernel
theorem dX10_odds_70 : decode cX10_odds 70 = .ok (.iload 4, 2) := by decide +kernel
theorem dX10_odds_72 : decode cX10_odds 72 = .ok (.aload_n 0, 1) := by decide +kernel
theorem dX10_odds_73 : decode cX10_odds 73 = .ok (.iload 6, 2) := by decide +kernel
theorem dX10_odds_75 : decode cX10_odds 75 = .ok (.invokevirtual 360, 3) := by decide +kernel
theorem dX10_odds_78 : decode cX10_odds 78 = .ok (.imul, 1) := by decide +kernel
theorem dX10_odds_79 : decode cX10_odds 79 = .ok (.istore 4, 2) := by decide +kernel
theorem dX10_odds_81 : decode cX10_odds 81 = .ok (.iload 5, 2) := by decide +kernel
theorem dX10_odds_83 : decode cX10_odds 83 = .ok (.bipush 10, 2) := by decide +kernel
theorem dX10_odds_85 : decode cX10_odds 85 = .ok (.aload_n 0, 1) := by decide +kernel
theorem dX10_odds_86 : decode cX10_odds 86 = .ok (.iload 6, 2) := by decide +kernel
theorem dX10_odds_88 : decode cX10_odds 88 = .ok (.invokevirtual 360, 3) := by decide +kernel
theorem dX10_odds_91 : decode cX10_odds 91 = .ok (.isub, 1) := by decide +kernel
theorem dX10_odds_92 : decode cX10_odds 92 = .ok (.imul, 1) := by decide +kernel
theorem dX10_odds_93 : decode cX10_odds 93 = .ok (.istore 5, 2) := by decide +kernel
theorem dX10_odds_95 : decode cX10_odds 95 = .ok (.iinc 6 1, 3) := by decide +kernel
theorem dX10_odds_98 : decode cX10_odds 98 = .ok (.goto (-53), 3) := by decide +kernel
theorem dX10_odds_101 : decode cX10_odds 101 = .ok (.iload_n 2, 1) := by decide +kernel
theorem dX10_odds_102 : decode cX10_odds 102 = .ok (.iconst 2, 1) := by decide +kernel
theorem dX10_odds_103 : decode cX10_odds 103 = .ok (.if_icmp .ge 8, 3) := by decide +kernel
theorem dX10_odds_106 : decode cX10_odds 106 = .ok (.iload 4, 2) := by decide +kernel
theorem dX10_odds_108 : decode cX10_odds 108 = .ok (.goto 17, 3) := by decide +kernel
theorem dX10_odds_111 : decode cX10_odds 111 = .ok (.iload_n 2, 1) := by decide +kernel
theorem dX10_odds_112 : decode cX10_odds 112 = .ok (.iconst 4, 1) := by decide +kernel
theorem dX10_odds_113 : decode cX10_odds 113 = .ok (.if_icmp .ge 8, 3) := by decide +kernel
theorem dX10_odds_116 : decode cX10_odds 116 = .ok (.iload 5, 2) := by decide +kernel
theorem dX10_odds_118 : decode cX10_odds 118 = .ok (.goto 7, 3) := by decide +kernel
theorem dX10_odds_121 : decode cX10_odds 121 = .ok (.iload_n 3, 1) := by decide +kernel
theorem dX10_odds_122 : decode cX10_odds 122 = .ok (.iload 5, 2) := by decide +kernel
theorem dX10_odds_124 : decode cX10_odds 124 = .ok (.isub, 1) := by decide +kernel
theorem dX10_odds_125 : decode cX10_odds 125 = .ok (.istore 6, 2) := by decide +kernel
theorem dX10_odds_127 : decode cX10_odds 127 = .ok (.iload_n 3, 1) := by decide +kernel
theorem dX10_odds_128 : decode cX10_odds 128 = .ok (.iload 6, 2) := by decide +kernel
theorem dX10_odds_130 : decode cX10_odds 130 = .ok (.invokestatic 381, 3) := by decide +kernel
theorem dX10_odds_133 : decode cX10_odds 133 = .ok (.istore 7, 2) := by decide +kernel
theorem dX10_odds_135 : decode cX10_odds 135 = .ok (.iload_n 2, 1) := by decide +kernel
theorem dX10_odds_136 : decode cX10_odds 136 = .ok (.iconst 2, 1) := by decide +kernel
theorem dX10_odds_137 : decode cX10_odds 137 = .ok (.irem, 1) := by decide +kernel
theorem dX10_odds_138 : decode cX10_odds 138 = .ok (.ifCond .ne 11, 3) := by decide +kernel
theorem dX10_odds_141 : decode cX10_odds 141 = .ok (.iload 6, 2) := by decide +kernel
theorem dX10_odds_143 : decode cX10_odds 143 = .ok (.iload 7, 2) := by decide +kernel
theorem dX10_odds_145 : decode cX10_odds 145 = .ok (.idiv, 1) := by decide +kernel
theorem dX10_odds_146 : decode cX10_odds 146 = .ok (.goto 7, 3) := by decide +kernel
theorem dX10_odds_149 : decode cX10_odds 149 = .ok (.iload_n 3, 1) := by decide +kernel
theorem dX10_odds_150 : decode cX10_odds 150 = .ok (.iload 7, 2) := by decide +kernel
theorem dX10_odds_152 : decode cX10_odds 152 = .ok (.idiv, 1) := by decide +kernel
theorem dX10_odds_153 : decode cX10_odds 153 = .ok (.ireturn, 1) := by decide +kernel
theorem dX10_seed_0 : decode cX10_seed 0 = .ok (.iload_n 1, 1) := by decide +kernel
theorem dX10_seed_1 : decode cX10_seed 1 = .ok (.iconst 0, 1) := by decide +kernel
theorem dX10_seed_2 : decode cX10_seed 2 = .ok (.ldc_w 384, 3) := by decide +kernel
theorem dX10_seed_5 : decode cX10_seed 5 = .ok (.invokestatic 112, 3) := by decide +kernel
theorem dX10_seed_8 : decode cX10_seed 8 = .ok (.ifCond .ne 5, 3) := by decide +kernel
theorem dX10_seed_11 : decode cX10_seed 11 = .ok (.iconst 0, 1) := by decide +kernel
theorem dX10_seed_12 : decode cX10_seed 12 = .ok (.ireturn, 1) := by decide +kernel
theorem dX10_seed_13 : decode cX10_seed 13 = .ok (.aload_n 0, 1) := by decide +kernel
theorem dX10_seed_14 : decode cX10_seed 14 = .ok (.getfield 7, 3) := by decide +kernel
theorem dX10_seed_17 : decode cX10_seed 17 = .ok (.bipush 75, 2) := by decide +kernel
theorem dX10_seed_19 : decode cX10_seed 19 = .ok (.iload_n 1, 1) := by decide +kernel
theorem dX10_seed_20 : decode cX10_seed 20 = .ok (.iastore, 1) := by decide +kernel
theorem dX10_seed_21 : decode cX10_seed 21 = .ok (.iconst 1, 1) := by decide +kernel
theorem dX10_seed_22 : decode cX10_seed 22 = .ok (.ireturn, 1) := by decide +kernel
theorem dX10_keep_0 : decode cX10_keep 0 = .ok (.aload_n 0, 1) := by decide +kernel
theorem dX10_keep_1 : decode cX10_keep 1 = .ok (.iconst 1, 1) := by decide +kernel
theorem dX10_keep_2 : decode cX10_keep 2 = .ok (.putfield 385, 3) := by decide +kernel
theorem dX10_keep_5 : decode cX10_keep 5 = .ok (.aload_n 0, 1) := by decide +kernel
theorem dX10_keep_6 : decode cX10_keep 6 = .ok (.getfield 7, 3) := by decide +kernel
theorem dX10_keep_9 : decode cX10_keep 9 = .ok (.aload_n 0, 1) := by decide +kernel
theorem dX10_keep_10 : decode cX10_keep 10 = .ok (.getfield 16, 3) := by decide +kernel
theorem dX10_keep_13 : decode cX10_keep 13 = .ok (.invokestatic 290, 3) := by decide +kernel
theorem dX10_keep_16 : decode cX10_keep 16 = .ok (.aload_n 0, 1) := by decide +kernel
theorem dX10_keep_17 : decode cX10_keep 17 = .ok (.getfield 7, 3) := by decide +kernel
theorem dX10_keep_20 : decode cX10_keep 20 = .ok (.bipush 74, 2) := by decide +kernel
theorem dX10_keep_22 : decode cX10_keep 22 = .ok (.iaload, 1) := by decide +kernel
theorem dX10_keep_23 : decode cX10_keep 23 = .ok (.ireturn, 1) := by decide +kernel
theorem dX10_undo_0 : decode cX10_undo 0 = .ok (.aload_n 0, 1) := by decide +kernel
theorem dX10_undo_1 : decode cX10_undo 1 = .ok (.getfield 385, 3) := by decide +kernel
theorem dX10_undo_4 : decode cX10_undo 4 = .ok (.ifCond .ne 5, 3) := by decide +kernel
theorem dX10_undo_7 : decode cX10_undo 7 = .ok (.iconst 0, 1) := by decide +kernel
theorem dX10_undo_8 : decode cX10_undo 8 = .ok (.ireturn, 1) := by decide +kernel
theorem dX10_undo_9 : decode cX10_undo 9 = .ok (.aload_n 0, 1) := by decide +kernel
theorem dX10_undo_10 : decode cX10_undo 10 = .ok (.getfield 16, 3) := by decide +kernel
theorem dX10_undo_13 : decode cX10_undo 13 = .ok (.aload_n 0, 1) := by decide +kernel
theorem dX10_undo_14 : decode cX10_undo 14 = .ok (.getfield 7, 3) := by decide +kernel
theorem dX10_undo_17 : decode cX10_undo 17 = .ok (.invokestatic 290, 3) := by decide +kernel
theorem dX10_undo_20 : decode cX10_undo 20 = .ok (.iconst 1, 1) := by decide +kernel
theorem dX10_undo_21 : decode cX10_undo 21 = .ok (.ireturn, 1) := by decide +kernel
theorem dX10_check_0 : decode cX10_check 0 = .ok (.iload_n 1, 1) := by decide +kernel
theorem dX10_check_1 : decode cX10_check 1 = .ok (.iconst 0, 1) := by decide +kernel
theorem dX10_check_2 : decode cX10_check 2 = .ok (.bipush 16, 2) := by decide +kernel
theorem dX10_check_4 : decode cX10_check 4 = .ok (.invokestatic 112, 3) := by decide +kernel
theorem dX10_check_7 : decode cX10_check 7 = .ok (.ifCond .eq 11, 3) := by decide +kernel
theorem dX10_check_10 : decode cX10_check 10 = .ok (.iload_n 1, 1) := by decide +kernel
theorem dX10_check_11 : decode cX10_check 11 = .ok (.aload_n 0, 1) := by decide +kernel
theorem dX10_check_12 : decode cX10_check 12 = .ok (.getfield 131, 3) := by decide +kernel
theorem dX10_check_15 : decode cX10_check 15 = .ok (.if_icmp .le 6, 3) := by decide +kernel
theorem dX10_check_18 : decode cX10_check 18 = .ok (.bipush (-2), 2) := by decide +kernel
theorem dX10_check_20 : decode cX10_check 20 = .ok (.ireturn, 1) := by decide +kernel
theorem dX10_check_21 : decode cX10_check 21 = .ok (.aload_n 0, 1) := by decide +kernel
theorem dX10_check_22 : decode cX10_check 22 = .ok (.iconst 0, 1) := by decide +kernel
theorem dX10_check_23 : decode cX10_check 23 = .ok (.putfield 131, 3) := by decide +kernel
theorem dX10_check_26 : decode cX10_check 26 = .ok (.iconst 0, 1) := by decide +kernel
theorem dX10_check_27 : decode cX10_check 27 = .ok (.istore_n 2, 1) := by decide +kernel
theorem dX10_check_28 : decode cX10_check 28 = .ok (.iload_n 2, 1) := by decide +kernel
theorem dX10_check_29 : decode cX10_check 29 = .ok (.iload_n 1, 1) := by decide +kernel
theorem dX10_check_30 : decode cX10_check 30 = .ok (.if_icmp .ge 41, 3) := by decide +kernel
theorem dX10_check_33 : decode cX10_check 33 = .ok (.aload_n 0, 1) := by decide +kernel
theorem dX10_check_34 : decode cX10_check 34 = .ok (.iload_n 2, 1) := by decide +kernel
theorem dX10_check_35 : decode cX10_check 35 = .ok (.invokevirtual 360, 3) := by decide +kernel
theorem dX10_check_38 : decode cX10_check 38 = .ok (.aload_n 0, 1) := by decide +kernel
theorem dX10_check_39 : decode cX10_check 39 = .ok (.iload_n 2, 1) := by decide +kernel
theorem dX10_check_40 : decode cX10_check 40 = .ok (.invokevirtual 128, 3) := by decide +kernel
theorem dX10_check_43 : decode cX10_check 43 = .ok (.ifCond .eq 14, 3) := by decide +kernel
theorem dX10_check_46 : decode cX10_check 46 = .ok (.aload_n 0, 1) := by decide +kernel
theorem dX10_check_47 : decode cX10_check 47 = .ok (.getfield 7, 3) := by decide +kernel
theorem dX10_check_50 : decode cX10_check 50 = .ok (.iconst 0, 1) := by decide +kernel
theorem dX10_check_51 : decode cX10_check 51 = .ok (.iload_n 2, 1) := by decide +kernel
theorem dX10_check_52 : decode cX10_check 52 = .ok (.iadd, 1) := by decide +kernel
theorem dX10_check_53 : decode cX10_check 53 = .ok (.iaload, 1) := by decide +kernel
theorem dX10_check_54 : decode cX10_check 54 = .ok (.goto 6, 3) := by decide +kernel
theorem dX10_check_57 : decode cX10_check 57 = .ok (.sipush 255, 3) := by decide +kernel
theorem dX10_check_60 : decode cX10_check 60 = .ok (.if_icmp .eq 5, 3) := by decide +kernel
theorem dX10_check_63 : decode cX10_check 63 = .ok (.iload_n 2, 1) := by decide +kernel
theorem dX10_check_64 : decode cX10_check 64 = .ok (.ireturn, 1) := by decide +kernel
theorem dX10_check_65 : decode cX10_check 65 = .ok (.iinc 2 1, 3) := by decide +kernel
theorem dX10_check_68 : decode cX10_check 68 = .ok (.goto (-40), 3) := by decide +kernel
theorem dX10_check_71 : decode cX10_check 71 = .ok (.iconst (-1), 1) := by decide +kernel
theorem dX10_check_72 : decode cX10_check 72 = .ok (.ireturn, 1) := by decide +kernel
theorem dX10_menSet_0 : decode cX10_menSet 0 = .ok (.iconst 0, 1) := by decide +kernel
theorem dX10_menSet_1 : decode cX10_menSet 1 = .ok (.istore_n 1, 1) := by decide +kernel
theorem dX10_menSet_2 : decode cX10_menSet 2 = .ok (.iconst 0, 1) := by decide +kernel
theorem dX10_menSet_3 : decode cX10_menSet 3 = .ok (.istore_n 2, 1) := by decide +kernel
theorem dX10_menSet_4 : decode cX10_menSet 4 = .ok (.iload_n 2, 1) := by decide +kernel
theorem dX10_menSet_5 : decode cX10_menSet 5 = .ok (.bipush 8, 2) := by decide +kernel
theorem dX10_menSet_7 : decode cX10_menSet 7 = .ok (.if_icmp .ge 23, 3) := by decide +kernel
theorem dX10_menSet_10 : decode cX10_menSet 10 = .ok (.aload_n 0, 1) := by decide +kernel
theorem dX10_menSet_11 : decode cX10_menSet 11 = .ok (.iload_n 2, 1) := by decide +kernel
theorem dX10_menSet_12 : decode cX10_menSet 12 = .ok (.invokevirtual 124, 3) := by decide +kernel
theorem dX10_menSet_15 : decode cX10_menSet 15 = .ok (.ifCond .eq 9, 3) := by decide +kernel
theorem dX10_menSet_18 : decode cX10_menSet 18 = .ok (.iload_n 1, 1) := by decide +kernel
theorem dX10_menSet_19 : decode cX10_menSet 19 = .ok (.iconst 1, 1) := by decide +kernel
theorem dX10_menSet_20 : decode cX10_menSet 20 = .ok (.iload_n 2, 1) := by decide +kernel
theorem dX10_menSet_21 : decode cX10_menSet 21 = .ok (.ishl, 1) := by decide +kernel
theorem dX10_menSet_22 : decode cX10_menSet 22 = .ok (.ior, 1) := by decide +kernel
theorem dX10_menSet_23 : decode cX10_menSet 23 = .ok (.istore_n 1, 1) := by decide +kernel
theorem dX10_menSet_24 : decode cX10_menSet 24 = .ok (.iinc 2 1, 3) := by decide +kernel
theorem dX10_menSet_27 : decode cX10_menSet 27 = .ok (.goto (-23), 3) := by decide +kernel
theorem dX10_menSet_30 : decode cX10_menSet 30 = .ok (.iload_n 1, 1) := by decide +kernel
theorem dX10_menSet_31 : decode cX10_menSet 31 = .ok (.ireturn, 1) := by decide +kernel
theorem dX10_wages_0 : decode cX10_wages 0 = .ok (.iconst 0, 1) := by decide +kernel
theorem dX10_wages_1 : decode cX10_wages 1 = .ok (.istore_n 1, 1) := by decide +kernel
theorem dX10_wages_2 : decode cX10_wages 2 = .ok (.iconst 0, 1) := by decide +kernel
theorem dX10_wages_3 : decode cX10_wages 3 = .ok (.istore_n 2, 1) := by decide +kernel
theorem dX10_wages_4 : decode cX10_wages 4 = .ok (.iload_n 2, 1) := by decide +kernel
theorem dX10_wages_5 : decode cX10_wages 5 = .ok (.bipush 8, 2) := by decide +kernel
theorem dX10_wages_7 : decode cX10_wages 7 = .ok (.if_icmp .ge 29, 3) := by decide +kernel
theorem dX10_wages_10 : decode cX10_wages 10 = .ok (.aload_n 0, 1) := by decide +kernel
theorem dX10_wages_11 : decode cX10_wages 11 = .ok (.iload_n 2, 1) := by decide +kernel
theorem dX10_wages_12 : decode cX10_wages 12 = .ok (.invokevirtual 124, 3) := by decide +kernel
theorem dX10_wages_15 : decode cX10_wages 15 = .ok (.ifCond .eq 15, 3) := by decide +kernel
theorem dX10_wages_18 : decode cX10_wages 18 = .ok (.iload_n 1, 1) := by decide +kernel
theorem dX10_wages_19 : decode cX10_wages 19 = .ok (.aload_n 0, 1) := by decide +kernel
theorem dX10_wages_20 : decode cX10_wages 20 = .ok (.getfield 7, 3) := by decide +kernel
theorem dX10_wages_23 : decode cX10_wages 23 = .ok (.bipush 64, 2) := by decide +kernel
theorem dX10_wages_25 : decode cX10_wages 25 = .ok (.iload_n 2, 1) := by decide +kernel
theorem dX10_wages_26 : decode cX10_wages 26 = .ok (.iadd, 1) := by decide +kernel
theorem dX10_wages_27 : decode cX10_wages 27 = .ok (.iaload, 1) := by decide +kernel
theorem dX10_wages_28 : decode cX10_wages 28 = .ok (.iadd, 1) := by decide +kernel
theorem dX10_wages_29 : decode cX10_wages 29 = .ok (.istore_n 1, 1) := by decide +kernel
theorem dX10_wages_30 : decode cX10_wages 30 = .ok (.iinc 2 1, 3) := by decide +kernel
theorem dX10_wages_33 : decode cX10_wages 33 = .ok (.goto (-29), 3) := by decide +kernel
theorem dX10_wages_36 : decode cX10_wages 36 = .ok (.iload_n 1, 1) := by decide +kernel
theorem dX10_wages_37 : decode cX10_wages 37 = .ok (.ireturn, 1) := by decide +kernel
theorem dX10_count_0 : decode cX10_count 0 = .ok (.iload_n 1, 1) := by decide +kernel
theorem dX10_count_1 : decode cX10_count 1 = .ok (.tableswitch 108 0 8 #[51, 59, 67, 75, 80, 85, 90, 95, 100], 51) := by decide +kernel
theorem dX10_count_52 : decode cX10_count 52 = .ok (.aload_n 0, 1) := by decide +kernel
theorem dX10_count_53 : decode cX10_count 53 = .ok (.getfield 7, 3) := by decide +kernel
theorem dX10_count_56 : decode cX10_count 56 = .ok (.bipush 74, 2) := by decide +kernel
theorem dX10_count_58 : decode cX10_count 58 = .ok (.iaload, 1) := by decide +kernel
theorem dX10_count_59 : decode cX10_count 59 = .ok (.ireturn, 1) := by decide +kernel
theorem dX10_count_60 : decode cX10_count 60 = .ok (.aload_n 0, 1) := by decide +kernel
theorem dX10_count_61 : decode cX10_count 61 = .ok (.getfield 7, 3) := by decide +kernel
theorem dX10_count_64 : decode cX10_count 64 = .ok (.bipush 73, 2) := by decide +kernel
theorem dX10_count_66 : decode cX10_count 66 = .ok (.iaload, 1) := by decide +kernel
theorem dX10_count_67 : decode cX10_count 67 = .ok (.ireturn, 1) := by decide +kernel
theorem dX10_count_68 : decode cX10_count 68 = .ok (.aload_n 0, 1) := by decide +kernel
theorem dX10_count_69 : decode cX10_count 69 = .ok (.getfield 7, 3) := by decide +kernel
theorem dX10_count_72 : decode cX10_count 72 = .ok (.bipush 72, 2) := by decide +kernel
theorem dX10_count_74 : decode cX10_count 74 = .ok (.iaload, 1) := by decide +kernel
theorem dX10_count_75 : decode cX10_count 75 = .ok (.ireturn, 1) := by decide +kernel
theorem dX10_count_76 : decode cX10_count 76 = .ok (.aload_n 0, 1) := by decide +kernel
theorem dX10_count_77 : decode cX10_count 77 = .ok (.getfield 116, 3) := by decide +kernel
theorem dX10_count_80 : decode cX10_count 80 = .ok (.ireturn, 1) := by decide +kernel
theorem dX10_count_81 : decode cX10_count 81 = .ok (.aload_n 0, 1) := by decide +kernel
theorem dX10_count_82 : decode cX10_count 82 = .ok (.invokevirtual 389, 3) := by decide +kernel
theorem dX10_count_85 : decode cX10_count 85 = .ok (.ireturn, 1) := by decide +kernel
theorem dX10_count_86 : decode cX10_count 86 = .ok (.aload_n 0, 1) := by decide +kernel
theorem dX10_count_87 : decode cX10_count 87 = .ok (.invokevirtual 392, 3) := by decide +kernel
theorem dX10_count_90 : decode cX10_count 90 = .ok (.ireturn, 1) := by decide +kernel
theorem dX10_count_91 : decode cX10_count 91 = .ok (.aload_n 0, 1) := by decide +kernel
theorem dX10_count_92 : decode cX10_count 92 = .ok (.getfield 230, 3) := by decide +kernel
theorem dX10_count_95 : decode cX10_count 95 = .ok (.ireturn, 1) := by decide +kernel
theorem dX10_count_96 : decode cX10_count 96 = .ok (.aload_n 0, 1) := by decide +kernel
theorem dX10_count_97 : decode cX10_count 97 = .ok (.getfield 131, 3) := by decide +kernel
theorem dX10_count_100 : decode cX10_count 100 = .ok (.ireturn, 1) := by decide +kernel
theorem dX10_count_101 : decode cX10_count 101 = .ok (.aload_n 0, 1) := by decide +kernel
theorem dX10_count_102 : decode cX10_count 102 = .ok (.getfield 7, 3) := by decide +kernel
theorem dX10_count_105 : decode cX10_count 105 = .ok (.bipush 75, 2) := by decide +kernel
theorem dX10_count_107 : decode cX10_count 107 = .ok (.iaload, 1) := by decide +kernel
theorem dX10_count_108 : decode cX10_count 108 = .ok (.ireturn, 1) := by decide +kernel
theorem dX10_count_109 : decode cX10_count 109 = .ok (.iconst (-1), 1) := by decide +kernel
theorem dX10_count_110 : decode cX10_count 110 = .ok (.ireturn, 1) := by decide +kernel
theorem dJ6_bitCount_0f7a4_0 : decode cJ6_bitCount_0f7a4 0 = .ok (.iload_n 0, 1) := by decide +kernel
theorem dJ6_bitCount_0f7a4_1 : decode cJ6_bitCount_0f7a4 1 = .ok (.iload_n 0, 1) := by decide +kernel
theorem dJ6_bitCount_0f7a4_2 : decode cJ6_bitCount_0f7a4 2 = .ok (.iconst 1, 1) := by decide +kernel
theorem dJ6_bitCount_0f7a4_3 : decode cJ6_bitCount_0f7a4 3 = .ok (.iushr, 1) := by decide +kernel
theorem dJ6_bitCount_0f7a4_4 : decode cJ6_bitCount_0f7a4 4 = .ok (.ldc_w 265, 3) := by decide +kernel
theorem dJ6_bitCount_0f7a4_7 : decode cJ6_bitCount_0f7a4 7 = .ok (.iand, 1) := by decide +kernel
theorem dJ6_bitCount_0f7a4_8 : decode cJ6_bitCount_0f7a4 8 = .ok (.isub, 1) := by decide +kernel
theorem dJ6_bitCount_0f7a4_9 : decode cJ6_bitCount_0f7a4 9 = .ok (.istore_n 0, 1) := by decide +kernel
theorem dJ6_bitCount_0f7a4_10 : decode cJ6_bitCount_0f7a4 10 = .ok (.iload_n 0, 1) := by decide +kernel
theorem dJ6_bitCount_0f7a4_11 : decode cJ6_bitCount_0f7a4 11 = .ok (.ldc_w 266, 3) := by decide +kernel
theorem dJ6_bitCount_0f7a4_14 : decode cJ6_bitCount_0f7a4 14 = .ok (.iand, 1) := by decide +kernel
theorem dJ6_bitCount_0f7a4_15 : decode cJ6_bitCount_0f7a4 15 = .ok (.iload_n 0, 1) := by decide +kernel
theorem dJ6_bitCount_0f7a4_16 : decode cJ6_bitCount_0f7a4 16 = .ok (.iconst 2, 1) := by decide +kernel
theorem dJ6_bitCount_0f7a4_17 : decode cJ6_bitCount_0f7a4 17 = .ok (.iushr, 1) := by decide +kernel
theorem dJ6_bitCount_0f7a4_18 : decode cJ6_bitCount_0f7a4 18 = .ok (.ldc_w 266, 3) := by decide +kernel
theorem dJ6_bitCount_0f7a4_21 : decode cJ6_bitCount_0f7a4 21 = .ok (.iand, 1) := by decide +kernel
theorem dJ6_bitCount_0f7a4_22 : decode cJ6_bitCount_0f7a4 22 = .ok (.iadd, 1) := by decide +kernel
theorem dJ6_bitCount_0f7a4_23 : decode cJ6_bitCount_0f7a4 23 = .ok (.istore_n 0, 1) := by decide +kernel
theorem dJ6_bitCount_0f7a4_24 : decode cJ6_bitCount_0f7a4 24 = .ok (.iload_n 0, 1) := by decide +kernel
theorem dJ6_bitCount_0f7a4_25 : decode cJ6_bitCount_0f7a4 25 = .ok (.iload_n 0, 1) := by decide +kernel
theorem dJ6_bitCount_0f7a4_26 : decode cJ6_bitCount_0f7a4 26 = .ok (.iconst 4, 1) := by decide +kernel
theorem dJ6_bitCount_0f7a4_27 : decode cJ6_bitCount_0f7a4 27 = .ok (.iushr, 1) := by decide +kernel
theorem dJ6_bitCount_0f7a4_28 : decode cJ6_bitCount_0f7a4 28 = .ok (.iadd, 1) := by decide +kernel
theorem dJ6_bitCount_0f7a4_29 : decode cJ6_bitCount_0f7a4 29 = .ok (.ldc_w 267, 3) := by decide +kernel
theorem dJ6_bitCount_0f7a4_32 : decode cJ6_bitCount_0f7a4 32 = .ok (.iand, 1) := by decide +kernel
theorem dJ6_bitCount_0f7a4_33 : decode cJ6_bitCount_0f7a4 33 = .ok (.istore_n 0, 1) := by decide +kernel
theorem dJ6_bitCount_0f7a4_34 : decode cJ6_bitCount_0f7a4 34 = .ok (.iload_n 0, 1) := by decide +kernel
theorem dJ6_bitCount_0f7a4_35 : decode cJ6_bitCount_0f7a4 35 = .ok (.iload_n 0, 1) := by decide +kernel
theorem dJ6_bitCount_0f7a4_36 : decode cJ6_bitCount_0f7a4 36 = .ok (.bipush 8, 2) := by decide +kernel
theorem dJ6_bitCount_0f7a4_38 : decode cJ6_bitCount_0f7a4 38 = .ok (.iushr, 1) := by decide +kernel
theorem dJ6_bitCount_0f7a4_39 : decode cJ6_bitCount_0f7a4 39 = .ok (.iadd, 1) := by decide +kernel
theorem dJ6_bitCount_0f7a4_40 : decode cJ6_bitCount_0f7a4 40 = .ok (.istore_n 0, 1) := by decide +kernel
theorem dJ6_bitCount_0f7a4_41 : decode cJ6_bitCount_0f7a4 41 = .ok (.iload_n 0, 1) := by decide +kernel
theorem dJ6_bitCount_0f7a4_42 : decode cJ6_bitCount_0f7a4 42 = .ok (.iload_n 0, 1) := by decide +kernel
theorem dJ6_bitCount_0f7a4_43 : decode cJ6_bitCount_0f7a4 43 = .ok (.bipush 16, 2) := by decide +kernel
theorem dJ6_bitCount_0f7a4_45 : decode cJ6_bitCount_0f7a4 45 = .ok (.iushr, 1) := by decide +kernel
theorem dJ6_bitCount_0f7a4_46 : decode cJ6_bitCount_0f7a4 46 = .ok (.iadd, 1) := by decide +kernel
theorem dJ6_bitCount_0f7a4_47 : decode cJ6_bitCount_0f7a4 47 = .ok (.istore_n 0, 1) := by decide +kernel
theorem dJ6_bitCount_0f7a4_48 : decode cJ6_bitCount_0f7a4 48 = .ok (.iload_n 0, 1) := by decide +kernel
theorem dJ6_bitCount_0f7a4_49 : decode cJ6_bitCount_0f7a4 49 = .ok (.bipush 63, 2) := by decide +kernel
theorem dJ6_bitCount_0f7a4_51 : decode cJ6_bitCount_0f7a4 51 = .ok (.iand, 1) := by decide +kernel
theorem dJ6_bitCount_0f7a4_52 : decode cJ6_bitCount_0f7a4 52 = .ok (.ireturn, 1) := by decide +kernel
theorem dJ9_floorMod_7cf53_0 : decode cJ9_floorMod_7cf53 0 = .ok (.iload_n 0, 1) := by decide +kernel
theorem dJ9_floorMod_7cf53_1 : decode cJ9_floorMod_7cf53 1 = .ok (.iload_n 1, 1) := by decide +kernel
theorem dJ9_floorMod_7cf53_2 : decode cJ9_floorMod_7cf53 2 = .ok (.irem, 1) := by decide +kernel
theorem dJ9_floorMod_7cf53_3 : decode cJ9_floorMod_7cf53 3 = .ok (.istore_n 2, 1) := by decide +kernel
theorem dJ9_floorMod_7cf53_4 : decode cJ9_floorMod_7cf53 4 = .ok (.iload_n 0, 1) := by decide +kernel
theorem dJ9_floorMod_7cf53_5 : decode cJ9_floorMod_7cf53 5 = .ok (.iload_n 1, 1) := by decide +kernel
theorem dJ9_floorMod_7cf53_6 : decode cJ9_floorMod_7cf53 6 = .ok (.ixor, 1) := by decide +kernel
theorem dJ9_floorMod_7cf53_7 : decode cJ9_floorMod_7cf53 7 = .ok (.ifCond .ge 11, 3) := by decide +kernel
theorem dJ9_floorMod_7cf53_10 : decode cJ9_floorMod_7cf53 10 = .ok (.iload_n 2, 1) := by decide +kernel
theorem dJ9_floorMod_7cf53_11 : decode cJ9_floorMod_7cf53 11 = .ok (.ifCond .eq 7, 3) := by decide +kernel
theorem dJ9_floorMod_7cf53_14 : decode cJ9_floorMod_7cf53 14 = .ok (.iload_n 2, 1) := by decide +kernel
theorem dJ9_floorMod_7cf53_15 : decode cJ9_floorMod_7cf53 15 = .ok (.iload_n 1, 1) := by decide +kernel
theorem dJ9_floorMod_7cf53_16 : decode cJ9_floorMod_7cf53 16 = .ok (.iadd, 1) := by decide +kernel
theorem dJ9_floorMod_7cf53_17 : decode cJ9_floorMod_7cf53 17 = .ok (.ireturn, 1) := by decide +kernel
theorem dJ9_floorMod_7cf53_18 : decode cJ9_floorMod_7cf53 18 = .ok (.iload_n 2, 1) := by decide +kernel
theorem dJ9_floorMod_7cf53_19 : decode cJ9_floorMod_7cf53 19 = .ok (.ireturn, 1) := by decide +kernel
theorem dJ9_max_7cf53_0 : decode cJ9_max_7cf53 0 = .ok (.iload_n 0, 1) := by decide +kernel
theorem dJ9_max_7cf53_1 : decode cJ9_max_7cf53 1 = .ok (.iload_n 1, 1) := by decide +kernel
theorem dJ9_max_7cf53_2 : decode cJ9_max_7cf53 2 = .ok (.if_icmp .lt 7, 3) := by decide +kernel
theorem dJ9_max_7cf53_5 : decode cJ9_max_7cf53 5 = .ok (.iload_n 0, 1) := by decide +kernel
theorem dJ9_max_7cf53_6 : decode cJ9_max_7cf53 6 = .ok (.goto 4, 3) := by decide +kernel
theorem dJ9_max_7cf53_9 : decode cJ9_max_7cf53 9 = .ok (.iload_n 1, 1) := by decide +kernel
theorem dJ9_max_7cf53_10 : decode cJ9_max_7cf53 10 = .ok (.ireturn, 1) := by decide +kernel
theorem dJ9_min_7cf53_0 : decode cJ9_min_7cf53 0 = .ok (.iload_n 0, 1) := by decide +kernel
theorem dJ9_min_7cf53_1 : decode cJ9_min_7cf53 1 = .ok (.iload_n 1, 1) := by decide +kernel
theorem dJ9_min_7cf53_2 : decode cJ9_min_7cf53 2 = .ok (.if_icmp .gt 7, 3) := by decide +kernel
theorem dJ9_min_7cf53_5 : decode cJ9_min_7cf53 5 = .ok (.iload_n 0, 1) := by decide +kernel
theorem dJ9_min_7cf53_6 : decode cJ9_min_7cf53 6 = .ok (.goto 4, 3) := by decide +kernel
theorem dJ9_min_7cf53_9 : decode cJ9_min_7cf53 9 = .ok (.iload_n 1, 1) := by decide +kernel
theorem dJ9_min_7cf53_10 : decode cJ9_min_7cf53 10 = .ok (.ireturn, 1) := by decide +kernel
theorem dL_law_0 : decode cL_law 0 = .ok (.new 7, 3) := by decide +kernel
theorem dL_law_3 : decode cL_law 3 = .ok (.dup, 1) := by decide +kernel
theorem dL_law_4 : decode cL_law 4 = .ok (.invokespecial 9, 3) := by decide +kernel
theorem dL_law_7 : decode cL_law 7 = .ok (.astore_n 1, 1) := by decide +kernel
theorem dL_law_8 : decode cL_law 8 = .ok (.new 10, 3) := by decide +kernel
theorem dL_law_11 : decode cL_law 11 = .ok (.dup, 1) := by decide +kernel
theorem dL_law_12 : decode cL_law 12 = .ok (.invokespecial 12, 3) := by decide +kernel
theorem dL_law_15 : decode cL_law 15 = .ok (.astore_n 2, 1) := by decide +kernel
theorem dL_law_16 : decode cL_law 16 = .ok (.iconst 0, 1) := by decide +kernel
theorem dL_law_17 : decode cL_law 17 = .ok (.istore_n 3, 1) := by decide +kernel
theorem dL_law_18 : decode cL_law 18 = .ok (.iload_n 3, 1) := by decide +kernel
theorem dL_law_19 : decode cL_law 19 = .ok (.aload_n 0, 1) := by decide +kernel
theorem dL_law_20 : decode cL_law 20 = .ok (.arraylength, 1) := by decide +kernel
theorem dL_law_21 : decode cL_law 21 = .ok (.bipush 6, 2) := by decide +kernel
theorem dL_law_23 : decode cL_law 23 = .ok (.isub, 1) := by decide +kernel
theorem dL_law_24 : decode cL_law 24 = .ok (.if_icmp .gt 1134, 3) := by decide +kernel
theorem dL_law_27 : decode cL_law 27 = .ok (.aload_n 0, 1) := by decide +kernel
theorem dL_law_28 : decode cL_law 28 = .ok (.iload_n 3, 1) := by decide +kernel
theorem dL_law_29 : decode cL_law 29 = .ok (.iaload, 1) := by decide +kernel
theorem dL_law_30 : decode cL_law 30 = .ok (.bipush 31, 2) := by decide +kernel
theorem dL_law_32 : decode cL_law 32 = .ok (.iand, 1) := by decide +kernel
theorem dL_law_33 : decode cL_law 33 = .ok (.tableswitch 1119 0 31 #[143, 186, 219, 282, 305, 338, 361, 384, 417, 450, 483, 516, 559, 582, 605, 638, 651, 674, 717, 740, 763, 806, 839, 882, 925, 958, 991, 1024, 1047, 1060, 1073, 1096], 143) := by decide +kernel
theorem dL_law_176 : decode cL_law 176 = .ok (.aload_n 1, 1) := by decide +kernel
theorem dL_law_177 : decode cL_law 177 = .ok (.aload_n 0, 1) := by decide +kernel
theorem dL_law_178 : decode cL_law 178 = .ok (.iload_n 3, 1) := by decide +kernel
theorem dL_law_179 : decode cL_law 179 = .ok (.iconst 1, 1) := by decide +kernel
theorem dL_law_180 : decode cL_law 180 = .ok (.iadd, 1) := by decide +kernel
theorem dL_law_181 : decode cL_law 181 = .ok (.iaload, 1) := by decide +kernel
theorem dL_law_182 : decode cL_law 182 = .ok (.aload_n 0, 1) := by decide +kernel
theorem dL_law_183 : decode cL_law 183 = .ok (.iload_n 3, 1) := by decide +kernel
theorem dL_law_184 : decode cL_law 184 = .ok (.iconst 2, 1) := by decide +kernel
theorem dL_law_185 : decode cL_law 185 = .ok (.iadd, 1) := by decide +kernel
theorem dL_law_186 : decode cL_law 186 = .ok (.iaload, 1) := by decide +kernel
theorem dL_law_187 : decode cL_law 187 = .ok (.aload_n 0, 1) := by decide +kernel
theorem dL_law_188 : decode cL_law 188 = .ok (.iload_n 3, 1) := by decide +kernel
theorem dL_law_189 : decode cL_law 189 = .ok (.iconst 3, 1) := by decide +kernel
theorem dL_law_190 : decode cL_law 190 = .ok (.iadd, 1) := by decide +kernel
theorem dL_law_191 : decode cL_law 191 = .ok (.iaload, 1) := by decide +kernel
theorem dL_law_192 : decode cL_law 192 = .ok (.invokevirtual 13, 3) := by decide +kernel
theorem dL_law_195 : decode cL_law 195 = .ok (.aload_n 2, 1) := by decide +kernel
theorem dL_law_196 : decode cL_law 196 = .ok (.aload_n 0, 1) := by decide +kernel
theorem dL_law_197 : decode cL_law 197 = .ok (.iload_n 3, 1) := by decide +kernel
theorem dL_law_198 : decode cL_law 198 = .ok (.iconst 1, 1) := by decide +kernel
theorem dL_law_199 : decode cL_law 199 = .ok (.iadd, 1) := by decide +kernel
theorem dL_law_200 : decode cL_law 200 = .ok (.iaload, 1) := by decide +kernel
theorem dL_law_201 : decode cL_law 201 = .ok (.aload_n 0, 1) := by decide +kernel
theorem dL_law_202 : decode cL_law 202 = .ok (.iload_n 3, 1) := by decide +kernel
theorem dL_law_203 : decode cL_law 203 = .ok (.iconst 2, 1) := by decide +kernel
theorem dL_law_204 : decode cL_law 204 = .ok (.iadd, 1) := by decide +kernel
theorem dL_law_205 : decode cL_law 205 = .ok (.iaload, 1) := by decide +kernel
theorem dL_law_206 : decode cL_law 206 = .ok (.aload_n 0, 1) := by decide +kernel
theorem dL_law_207 : decode cL_law 207 = .ok (.iload_n 3, 1) := by decide +kernel
theorem dL_law_208 : decode cL_law 208 = .ok (.iconst 3, 1) := by decide +kernel
theorem dL_law_209 : decode cL_law 209 = .ok (.iadd, 1) := by decide +kernel
theorem dL_law_210 : decode cL_law 210 = .ok (.iaload, 1) := by decide +kernel
theorem dL_law_211 : decode cL_law 211 = .ok (.invokevirtual 17, 3) := by decide +kernel
theorem dL_law_214 : decode cL_law 214 = .ok (.if_icmp .eq 938, 3) := by decide +kernel
theorem dL_law_217 : decode cL_law 217 = .ok (.iconst 0, 1) := by decide +kernel
theorem dL_law_218 : decode cL_law 218 = .ok (.ireturn, 1) := by decide +kernel
theorem dL_law_219 : decode cL_law 219 = .ok (.aload_n 1, 1) := by decide +kernel
theorem dL_law_220 : decode cL_law 220 = .ok (.aload_n 0, 1) := by decide +kernel
theorem dL_law_221 : decode cL_law 221 = .ok (.iload_n 3, 1) := by decide +kernel
theorem dL_law_222 : decode cL_law 222 = .ok (.iconst 1, 1) := by decide +kernel
theorem dL_law_223 : decode cL_law 223 = .ok (.iadd, 1) := by decide +kernel
theorem dL_law_224 : decode cL_law 224 = .ok (.iaload, 1) := by decide +kernel
theorem dL_law_225 : decode cL_law 225 = .ok (.aload_n 0, 1) := by decide +kernel
theorem dL_law_226 : decode cL_law 226 = .ok (.iload_n 3, 1) := by decide +kernel
theorem dL_law_227 : decode cL_law 227 = .ok (.iconst 2, 1) := by decide +kernel
theorem dL_law_228 : decode cL_law 228 = .ok (.iadd, 1) := by decide +kernel
theorem dL_law_229 : decode cL_law 229 = .ok (.iaload, 1) := by decide +kernel
theorem dL_law_230 : decode cL_law 230 = .ok (.invokevirtual 18, 3) := by decide +kernel
theorem dL_law_233 : decode cL_law 233 = .ok (.aload_n 2, 1) := by decide +kernel
theorem dL_law_234 : decode cL_law 234 = .ok (.aload_n 0, 1) := by decide +kernel
theorem dL_law_235 : decode cL_law 235 = .ok (.iload_n 3, 1) := by decide +kernel
theorem dL_law_236 : decode cL_law 236 = .ok (.iconst 1, 1) := by decide +kernel
theorem dL_law_237 : decode cL_law 237 = .ok (.iadd, 1) := by decide +kernel
theorem dL_law_238 : decode cL_law 238 = .ok (.iaload, 1) := by decide +kernel
theorem dL_law_239 : decode cL_law 239 = .ok (.aload_n 0, 1) := by decide +kernel
theorem dL_law_240 : decode cL_law 240 = .ok (.iload_n 3, 1) := by decide +kernel
theorem dL_law_241 : decode cL_law 241 = .ok (.iconst 2, 1) := by decide +kernel
theorem dL_law_242 : decode cL_law 242 = .ok (.iadd, 1) := by decide +kernel
theorem dL_law_243 : decode cL_law 243 = .ok (.iaload, 1) := by decide +kernel
theorem dL_law_244 : decode cL_law 244 = .ok (.invokevirtual 22, 3) := by decide +kernel
theorem dL_law_247 : decode cL_law 247 = .ok (.if_icmp .eq 905, 3) := by decide +kernel
theorem dL_law_250 : decode cL_law 250 = .ok (.iconst 0, 1) := by decide +kernel
theorem dL_law_251 : decode cL_law 251 = .ok (.ireturn, 1) := by decide +kernel
theorem dL_law_252 : decode cL_law 252 = .ok (.aload_n 1, 1) := by decide +kernel
theorem dL_law_253 : decode cL_law 253 = .ok (.aload_n 0, 1) := by decide +kernel
theorem dL_law_254 : decode cL_law 254 = .ok (.iload_n 3, 1) := by decide +kernel
theorem dL_law_255 : decode cL_law 255 = .ok (.iconst 1, 1) := by decide +kernel
theorem dL_law_256 : decode cL_law 256 = .ok (.iadd, 1) := by decide +kernel
theorem dL_law_257 : decode cL_law 257 = .ok (.iaload, 1) := by decide +kernel
theorem dL_law_258 : decode cL_law 258 = .ok (.aload_n 0, 1) := by decide +kernel
theorem dL_law_259 : decode cL_law 259 = .ok (.iload_n 3, 1) := by decide +kernel
theorem dL_law_260 : decode cL_law 260 = .ok (.iconst 2, 1) := by decide +kernel
theorem dL_law_261 : decode cL_law 261 = .ok (.iadd, 1) := by decide +kernel
theorem dL_law_262 : decode cL_law 262 = .ok (.iaload, 1) := by decide +kernel
theorem dL_law_263 : decode cL_law 263 = .ok (.aload_n 0, 1) := by decide +kernel
theorem dL_law_264 : decode cL_law 264 = .ok (.iload_n 3, 1) := by decide +kernel
theorem dL_law_265 : decode cL_law 265 = .ok (.iconst 3, 1) := by decide +kernel
theorem dL_law_266 : decode cL_law 266 = .ok (.iadd, 1) := by decide +kernel
theorem dL_law_267 : decode cL_law 267 = .ok (.iaload, 1) := by decide +kernel
theorem dL_law_268 : decode cL_law 268 = .ok (.aload_n 0, 1) := by decide +kernel
theorem dL_law_269 : decode cL_law 269 = .ok (.iload_n 3, 1) := by decide +kernel
theorem dL_law_270 : decode cL_law 270 = .ok (.iconst 4, 1) := by decide +kernel
theorem dL_law_271 : decode cL_law 271 = .ok (.iadd, 1) := by decide +kernel
theorem dL_law_272 : decode cL_law 272 = .ok (.iaload, 1) := by decide +kernel
theorem dL_law_273 : decode cL_law 273 = .ok (.aload_n 0, 1) := by decide +kernel
theorem dL_law_274 : decode cL_law 274 = .ok (.iload_n 3, 1) := by decide +kernel
theorem dL_law_275 : decode cL_law 275 = .ok (.iconst 5, 1) := by decide +kernel
theorem dL_law_276 : decode cL_law 276 = .ok (.iadd, 1) := by decide +kernel
theorem dL_law_277 : decode cL_law 277 = .ok (.iaload, 1) := by decide +kernel
theorem dL_law_278 : decode cL_law 278 = .ok (.invokevirtual 23, 3) := by decide +kernel
theorem dL_law_281 : decode cL_law 281 = .ok (.aload_n 2, 1) := by decide +kernel
theorem dL_law_282 : decode cL_law 282 = .ok (.aload_n 0, 1) := by decide +kernel
theorem dL_law_283 : decode cL_law 283 = .ok (.iload_n 3, 1) := by decide +kernel
theorem dL_law_284 : decode cL_law 284 = .ok (.iconst 1, 1) := by decide +kernel
theorem dL_law_285 : decode cL_law 285 = .ok (.iadd, 1) := by decide +kernel
theorem dL_law_286 : decode cL_law 286 = .ok (.iaload, 1) := by decide +kernel
theorem dL_law_287 : decode cL_law 287 = .ok (.aload_n 0, 1) := by decide +kernel
theorem dL_law_288 : decode cL_law 288 = .ok (.iload_n 3, 1) := by decide +kernel
theorem dL_law_289 : decode cL_law 289 = .ok (.iconst 2, 1) := by decide +kernel
theorem dL_law_290 : decode cL_law 290 = .ok (.iadd, 1) := by decide +kernel
theorem dL_law_291 : decode cL_law 291 = .ok (.iaload, 1) := by decide +kernel
theorem dL_law_292 : decode cL_law 292 = .ok (.aload_n 0, 1) := by decide +kernel
theorem dL_law_293 : decode cL_law 293 = .ok (.iload_n 3, 1) := by decide +kernel
theorem dL_law_294 : decode cL_law 294 = .ok (.iconst 3, 1) := by decide +kernel
theorem dL_law_295 : decode cL_law 295 = .ok (.iadd, 1) := by decide +kernel
theorem dL_law_296 : decode cL_law 296 = .ok (.iaload, 1) := by decide +kernel
theorem dL_law_297 : decode cL_law 297 = .ok (.aload_n 0, 1) := by decide +kernel
theorem dL_law_298 : decode cL_law 298 = .ok (.iload_n 3, 1) := by decide +kernel
theorem dL_law_299 : decode cL_law 299 = .ok (.iconst 4, 1) := by decide +kernel
theorem dL_law_300 : decode cL_law 300 = .ok (.iadd, 1) := by decide +kernel
theorem dL_law_301 : decode cL_law 301 = .ok (.iaload, 1) := by decide +kernel
theorem dL_law_302 : decode cL_law 302 = .ok (.aload_n 0, 1) := by decide +kernel
theorem dL_law_303 : decode cL_law 303 = .ok (.iload_n 3, 1) := by decide +kernel
theorem dL_law_304 : decode cL_law 304 = .ok (.iconst 5, 1) := by decide +kernel
theorem dL_law_305 : decode cL_law 305 = .ok (.iadd, 1) := by decide +kernel
theorem dL_law_306 : decode cL_law 306 = .ok (.iaload, 1) := by decide +kernel
theorem dL_law_307 : decode cL_law 307 = .ok (.invokevirtual 27, 3) := by decide +kernel
theorem dL_law_310 : decode cL_law 310 = .ok (.if_icmp .eq 842, 3) := by decide +kernel
theorem dL_law_313 : decode cL_law 313 = .ok (.iconst 0, 1) := by decide +kernel
theorem dL_law_314 : decode cL_law 314 = .ok (.ireturn, 1) := by decide +kernel
theorem dL_law_315 : decode cL_law 315 = .ok (.aload_n 1, 1) := by decide +kernel
theorem dL_law_316 : decode cL_law 316 = .ok (.aload_n 0, 1) := by decide +kernel
theorem dL_law_317 : decode cL_law 317 = .ok (.iload_n 3, 1) := by decide +kernel
theorem dL_law_318 : decode cL_law 318 = .ok (.iconst 1, 1) := by decide +kernel
theorem dL_law_319 : decode cL_law 319 = .ok (.iadd, 1) := by decide +kernel
theorem dL_law_320 : decode cL_law 320 = .ok (.iaload, 1) := by decide +kernel
theorem dL_law_321 : decode cL_law 321 = .ok (.invokevirtual 28, 3) := by decide +kernel
theorem dL_law_324 : decode cL_law 324 = .ok (.aload_n 2, 1) := by decide +kernel
theorem dL_law_325 : decode cL_law 325 = .ok (.aload_n 0, 1) := by decide +kernel
theorem dL_law_326 : decode cL_law 326 = .ok (.iload_n 3, 1) := by decide +kernel
theorem dL_law_327 : decode cL_law 327 = .ok (.iconst 1, 1) := by decide +kernel
theorem dL_law_328 : decode cL_law 328 = .ok (.iadd, 1) := by decide +kernel
theorem dL_law_329 : decode cL_law 329 = .ok (.iaload, 1) := by decide +kernel
theorem dL_law_330 : decode cL_law 330 = .ok (.invokevirtual 32, 3) := by decide +kernel
theorem dL_law_333 : decode cL_law 333 = .ok (.if_icmp .eq 819, 3) := by decide +kernel
theorem dL_law_336 : decode cL_law 336 = .ok (.iconst 0, 1) := by decide +kernel
theorem dL_law_337 : decode cL_law 337 = .ok (.ireturn, 1) := by decide +kernel
theorem dL_law_338 : decode cL_law 338 = .ok (.aload_n 1, 1) := by decide +kernel
theorem dL_law_339 : decode cL_law 339 = .ok (.aload_n 0, 1) := by decide +kernel
theorem dL_law_340 : decode cL_law 340 = .ok (.iload_n 3, 1) := by decide +kernel
theorem dL_law_341 : decode cL_law 341 = .ok (.iconst 1, 1) := by decide +kernel
theorem dL_law_342 : decode cL_law 342 = .ok (.iadd, 1) := by decide +kernel
theorem dL_law_343 : decode cL_law 343 = .ok (.iaload, 1) := by decide +kernel
theorem dL_law_344 : decode cL_law 344 = .ok (.aload_n 0, 1) := by decide +kernel
theorem dL_law_345 : decode cL_law 345 = .ok (.iload_n 3, 1) := by decide +kernel
theorem dL_law_346 : decode cL_law 346 = .ok (.iconst 2, 1) := by decide +kernel
theorem dL_law_347 : decode cL_law 347 = .ok (.iadd, 1) := by decide +kernel
theorem dL_law_348 : decode cL_law 348 = .ok (.iaload, 1) := by decide +kernel
theorem dL_law_349 : decode cL_law 349 = .ok (.invokevirtual 33, 3) := by decide +kernel
theorem dL_law_352 : decode cL_law 352 = .ok (.aload_n 2, 1) := by decide +kernel
theorem dL_law_353 : decode cL_law 353 = .ok (.aload_n 0, 1) := by decide +kernel
theorem dL_law_354 : decode cL_law 354 = .ok (.iload_n 3, 1) := by decide +kernel
theorem dL_law_355 : decode cL_law 355 = .ok (.iconst 1, 1) := by decide +kernel
theorem dL_law_356 : decode cL_law 356 = .ok (.iadd, 1) := by decide +kernel
theorem dL_law_357 : decode cL_law 357 = .ok (.iaload, 1) := by decide +kernel
theorem dL_law_358 : decode cL_law 358 = .ok (.aload_n 0, 1) := by decide +kernel
theorem dL_law_359 : decode cL_law 359 = .ok (.iload_n 3, 1) := by decide +kernel
theorem dL_law_360 : decode cL_law 360 = .ok (.iconst 2, 1) := by decide +kernel
theorem dL_law_361 : decode cL_law 361 = .ok (.iadd, 1) := by decide +kernel
theorem dL_law_362 : decode cL_law 362 = .ok (.iaload, 1) := by decide +kernel
theorem dL_law_363 : decode cL_law 363 = .ok (.invokevirtual 37, 3) := by decide +kernel
theorem dL_law_366 : decode cL_law 366 = .ok (.if_icmp .eq 786, 3) := by decide +kernel
theorem dL_law_369 : decode cL_law 369 = .ok (.iconst 0, 1) := by decide +kernel
theorem dL_law_370 : decode cL_law 370 = .ok (.ireturn, 1) := by decide +kernel
theorem dL_law_371 : decode cL_law 371 = .ok (.aload_n 1, 1) := by decide +kernel
theorem dL_law_372 : decode cL_law 372 = .ok (.aload_n 0, 1) := by decide +kernel
theorem dL_law_373 : decode cL_law 373 = .ok (.iload_n 3, 1) := by decide +kernel
theorem dL_law_374 : decode cL_law 374 = .ok (.iconst 1, 1) := by decide +kernel
theorem dL_law_375 : decode cL_law 375 = .ok (.iadd, 1) := by decide +kernel
theorem dL_law_376 : decode cL_law 376 = .ok (.iaload, 1) := by decide +kernel
theorem dL_law_377 : decode cL_law 377 = .ok (.invokevirtual 38, 3) := by decide +kernel
theorem dL_law_380 : decode cL_law 380 = .ok (.aload_n 2, 1) := by decide +kernel
theorem dL_law_381 : decode cL_law 381 = .ok (.aload_n 0, 1) := by decide +kernel
theorem dL_law_382 : decode cL_law 382 = .ok (.iload_n 3, 1) := by decide +kernel
theorem dL_law_383 : decode cL_law 383 = .ok (.iconst 1, 1) := by decide +kernel
theorem dL_law_384 : decode cL_law 384 = .ok (.iadd, 1) := by decide +kernel
theorem dL_law_385 : decode cL_law 385 = .ok (.iaload, 1) := by decide +kernel
theorem dL_law_386 : decode cL_law 386 = .ok (.invokevirtual 41, 3) := by decide +kernel
theorem dL_law_389 : decode cL_law 389 = .ok (.if_icmp .eq 763, 3) := by decide +kernel
theorem dL_law_392 : decode cL_law 392 = .ok (.iconst 0, 1) := by decide +kernel
theorem dL_law_393 : decode cL_law 393 = .ok (.ireturn, 1) := by decide +kernel
theorem dL_law_394 : decode cL_law 394 = .ok (.aload_n 1, 1) := by decide +kernel
theorem dL_law_395 : decode cL_law 395 = .ok (.aload_n 0, 1) := by decide +kernel
theorem dL_law_396 : decode cL_law 396 = .ok (.iload_n 3, 1) := by decide +kernel
theorem dL_law_397 : decode cL_law 397 = .ok (.iconst 1, 1) := by decide +kernel
theorem dL_law_398 : decode cL_law 398 = .ok (.iadd, 1) := by decide +kernel
theorem dL_law_399 : decode cL_law 399 = .ok (.iaload, 1) := by decide +kernel
theorem dL_law_400 : decode cL_law 400 = .ok (.invokevirtual 42, 3) := by decide +kernel
theorem dL_law_403 : decode cL_law 403 = .ok (.aload_n 2, 1) := by decide +kernel
theorem dL_law_404 : decode cL_law 404 = .ok (.aload_n 0, 1) := by decide +kernel
theorem dL_law_405 : decode cL_law 405 = .ok (.iload_n 3, 1) := by decide +kernel
theorem dL_law_406 : decode cL_law 406 = .ok (.iconst 1, 1) := by decide +kernel
theorem dL_law_407 : decode cL_law 407 = .ok (.iadd, 1) := by decide +kernel
theorem dL_law_408 : decode cL_law 408 = .ok (.iaload, 1) := by decide +kernel
theorem dL_law_409 : decode cL_law 409 = .ok (.invokevirtual 45, 3) := by decide +kernel
theorem dL_law_412 : decode cL_law 412 = .ok (.if_icmp .eq 740, 3) := by decide +kernel
theorem dL_law_415 : decode cL_law 415 = .ok (.iconst 0, 1) := by decide +kernel
theorem dL_law_416 : decode cL_law 416 = .ok (.ireturn, 1) := by decide +kernel
theorem dL_law_417 : decode cL_law 417 = .ok (.aload_n 1, 1) := by decide +kernel
theorem dL_law_418 : decode cL_law 418 = .ok (.aload_n 0, 1) := by decide +kernel
theorem dL_law_419 : decode cL_law 419 = .ok (.iload_n 3, 1) := by decide +kernel
theorem dL_law_420 : decode cL_law 420 = .ok (.iconst 1, 1) := by decide +kernel
theorem dL_law_421 : decode cL_law 421 = .ok (.iadd, 1) := by decide +kernel
theorem dL_law_422 : decode cL_law 422 = .ok (.iaload, 1) := by decide +kernel
theorem dL_law_423 : decode cL_law 423 = .ok (.aload_n 0, 1) := by decide +kernel
theorem dL_law_424 : decode cL_law 424 = .ok (.iload_n 3, 1) := by decide +kernel
theorem dL_law_425 : decode cL_law 425 = .ok (.iconst 2, 1) := by decide +kernel
theorem dL_law_426 : decode cL_law 426 = .ok (.iadd, 1) := by decide +kernel
theorem dL_law_427 : decode cL_law 427 = .ok (.iaload, 1) := by decide +kernel
theorem dL_law_428 : decode cL_law 428 = .ok (.invokevirtual 46, 3) := by decide +kernel
theorem dL_law_431 : decode cL_law 431 = .ok (.aload_n 2, 1) := by decide +kernel
theorem dL_law_432 : decode cL_law 432 = .ok (.aload_n 0, 1) := by decide +kernel
theorem dL_law_433 : decode cL_law 433 = .ok (.iload_n 3, 1) := by decide +kernel
theorem dL_law_434 : decode cL_law 434 = .ok (.iconst 1, 1) := by decide +kernel
theorem dL_law_435 : decode cL_law 435 = .ok (.iadd, 1) := by decide +kernel
theorem dL_law_436 : decode cL_law 436 = .ok (.iaload, 1) := by decide +kernel
theorem dL_law_437 : decode cL_law 437 = .ok (.aload_n 0, 1) := by decide +kernel
theorem dL_law_438 : decode cL_law 438 = .ok (.iload_n 3, 1) := by decide +kernel
theorem dL_law_439 : decode cL_law 439 = .ok (.iconst 2, 1) := by decide +kernel
theorem dL_law_440 : decode cL_law 440 = .ok (.iadd, 1) := by decide +kernel
theorem dL_law_441 : decode cL_law 441 = .ok (.iaload, 1) := by decide +kernel
theorem dL_law_442 : decode cL_law 442 = .ok (.invokevirtual 49, 3) := by decide +kernel
theorem dL_law_445 : decode cL_law 445 = .ok (.if_icmp .eq 707, 3) := by decide +kernel
theorem dL_law_448 : decode cL_law 448 = .ok (.iconst 0, 1) := by decide +kernel
theorem dL_law_449 : decode cL_law 449 = .ok (.ireturn, 1) := by decide +kernel
theorem dL_law_450 : decode cL_law 450 = .ok (.aload_n 1, 1) := by decide +kernel
theorem dL_law_451 : decode cL_law 451 = .ok (.aload_n 0, 1) := by decide +kernel
theorem dL_law_452 : decode cL_law 452 = .ok (.iload_n 3, 1) := by decide +kernel
theorem dL_law_453 : decode cL_law 453 = .ok (.iconst 1, 1) := by decide +kernel
theorem dL_law_454 : decode cL_law 454 = .ok (.iadd, 1) := by decide +kernel
theorem dL_law_455 : decode cL_law 455 = .ok (.iaload, 1) := by decide +kernel
theorem dL_law_456 : decode cL_law 456 = .ok (.aload_n 0, 1) := by decide +kernel
theorem dL_law_457 : decode cL_law 457 = .ok (.iload_n 3, 1) := by decide +kernel
theorem dL_law_458 : decode cL_law 458 = .ok (.iconst 2, 1) := by decide +kernel
theorem dL_law_459 : decode cL_law 459 = .ok (.iadd, 1) := by decide +kernel
theorem dL_law_460 : decode cL_law 460 = .ok (.iaload, 1) := by decide +kernel
theorem dL_law_461 : decode cL_law 461 = .ok (.invokevirtual 50, 3) := by decide +kernel
theorem dL_law_464 : decode cL_law 464 = .ok (.aload_n 2, 1) := by decide +kernel
theorem dL_law_465 : decode cL_law 465 = .ok (.aload_n 0, 1) := by decide +kernel
theorem dL_law_466 : decode cL_law 466 = .ok (.iload_n 3, 1) := by decide +kernel
theorem dL_law_467 : decode cL_law 467 = .ok (.iconst 1, 1) := by decide +kernel
theorem dL_law_468 : decode cL_law 468 = .ok (.iadd, 1) := by decide +kernel
theorem dL_law_469 : decode cL_law 469 = .ok (.iaload, 1) := by decide +kernel
theorem dL_law_470 : decode cL_law 470 = .ok (.aload_n 0, 1) := by decide +kernel
theorem dL_law_471 : decode cL_law 471 = .ok (.iload_n 3, 1) := by decide +kernel
theorem dL_law_472 : decode cL_law 472 = .ok (.iconst 2, 1) := by decide +kernel
theorem dL_law_473 : decode cL_law 473 = .ok (.iadd, 1) := by decide +kernel
theorem dL_law_474 : decode cL_law 474 = .ok (.iaload, 1) := by decide +kernel
theorem dL_law_475 : decode cL_law 475 = .ok (.invokevirtual 53, 3) := by decide +kernel
theorem dL_law_478 : decode cL_law 478 = .ok (.if_icmp .eq 674, 3) := by decide +kernel
theorem dL_law_481 : decode cL_law 481 = .ok (.iconst 0, 1) := by decide +kernel
theorem dL_law_482 : decode cL_law 482 = .ok (.ireturn, 1) := by decide +kernel
theorem dL_law_483 : decode cL_law 483 = .ok (.aload_n 1, 1) := by decide +kernel
theorem dL_law_484 : decode cL_law 484 = .ok (.aload_n 0, 1) := by decide +kernel
theorem dL_law_485 : decode cL_law 485 = .ok (.iload_n 3, 1) := by decide +kernel
theorem dL_law_486 : decode cL_law 486 = .ok (.iconst 1, 1) := by decide +kernel
theorem dL_law_487 : decode cL_law 487 = .ok (.iadd, 1) := by decide +kernel
theorem dL_law_488 : decode cL_law 488 = .ok (.iaload, 1) := by decide +kernel
theorem dL_law_489 : decode cL_law 489 = .ok (.aload_n 0, 1) := by decide +kernel
theorem dL_law_490 : decode cL_law 490 = .ok (.iload_n 3, 1) := by decide +kernel
theorem dL_law_491 : decode cL_law 491 = .ok (.iconst 2, 1) := by decide +kernel
theorem dL_law_492 : decode cL_law 492 = .ok (.iadd, 1) := by decide +kernel
theorem dL_law_493 : decode cL_law 493 = .ok (.iaload, 1) := by decide +kernel
theorem dL_law_494 : decode cL_law 494 = .ok (.invokevirtual 54, 3) := by decide +kernel
theorem dL_law_497 : decode cL_law 497 = .ok (.aload_n 2, 1) := by decide +kernel
theorem dL_law_498 : decode cL_law 498 = .ok (.aload_n 0, 1) := by decide +kernel
theorem dL_law_499 : decode cL_law 499 = .ok (.iload_n 3, 1) := by decide +kernel
theorem dL_law_500 : decode cL_law 500 = .ok (.iconst 1, 1) := by decide +kernel
theorem dL_law_501 : decode cL_law 501 = .ok (.iadd, 1) := by decide +kernel
theorem dL_law_502 : decode cL_law 502 = .ok (.iaload, 1) := by decide +kernel
theorem dL_law_503 : decode cL_law 503 = .ok (.aload_n 0, 1) := by decide +kernel
theorem dL_law_504 : decode cL_law 504 = .ok (.iload_n 3, 1) := by decide +kernel
theorem dL_law_505 : decode cL_law 505 = .ok (.iconst 2, 1) := by decide +kernel
theorem dL_law_506 : decode cL_law 506 = .ok (.iadd, 1) := by decide +kernel
theorem dL_law_507 : decode cL_law 507 = .ok (.iaload, 1) := by decide +kernel
theorem dL_law_508 : decode cL_law 508 = .ok (.invokevirtual 57, 3) := by decide +kernel
theorem dL_law_511 : decode cL_law 511 = .ok (.if_icmp .eq 641, 3) := by decide +kernel
theorem dL_law_514 : decode cL_law 514 = .ok (.iconst 0, 1) := by decide +kernel
theorem dL_law_515 : decode cL_law 515 = .ok (.ireturn, 1) := by decide +kernel
theorem dL_law_516 : decode cL_law 516 = .ok (.aload_n 1, 1) := by decide +kernel
theorem dL_law_517 : decode cL_law 517 = .ok (.aload_n 0, 1) := by decide +kernel
theorem dL_law_518 : decode cL_law 518 = .ok (.iload_n 3, 1) := by decide +kernel
theorem dL_law_519 : decode cL_law 519 = .ok (.iconst 1, 1) := by decide +kernel
theorem dL_law_520 : decode cL_law 520 = .ok (.iadd, 1) := by decide +kernel
theorem dL_law_521 : decode cL_law 521 = .ok (.iaload, 1) := by decide +kernel
theorem dL_law_522 : decode cL_law 522 = .ok (.aload_n 0, 1) := by decide +kernel
theorem dL_law_523 : decode cL_law 523 = .ok (.iload_n 3, 1) := by decide +kernel
theorem dL_law_524 : decode cL_law 524 = .ok (.iconst 2, 1) := by decide +kernel
theorem dL_law_525 : decode cL_law 525 = .ok (.iadd, 1) := by decide +kernel
theorem dL_law_526 : decode cL_law 526 = .ok (.iaload, 1) := by decide +kernel
theorem dL_law_527 : decode cL_law 527 = .ok (.invokevirtual 58, 3) := by decide +kernel
theorem dL_law_530 : decode cL_law 530 = .ok (.aload_n 2, 1) := by decide +kernel
theorem dL_law_531 : decode cL_law 531 = .ok (.aload_n 0, 1) := by decide +kernel
theorem dL_law_532 : decode cL_law 532 = .ok (.iload_n 3, 1) := by decide +kernel
theorem dL_law_533 : decode cL_law 533 = .ok (.iconst 1, 1) := by decide +kernel
theorem dL_law_534 : decode cL_law 534 = .ok (.iadd, 1) := by decide +kernel
theorem dL_law_535 : decode cL_law 535 = .ok (.iaload, 1) := by decide +kernel
theorem dL_law_536 : decode cL_law 536 = .ok (.aload_n 0, 1) := by decide +kernel
theorem dL_law_537 : decode cL_law 537 = .ok (.iload_n 3, 1) := by decide +kernel
theorem dL_law_538 : decode cL_law 538 = .ok (.iconst 2, 1) := by decide +kernel
theorem dL_law_539 : decode cL_law 539 = .ok (.iadd, 1) := by decide +kernel
theorem dL_law_540 : decode cL_law 540 = .ok (.iaload, 1) := by decide +kernel
theorem dL_law_541 : decode cL_law 541 = .ok (.invokevirtual 61, 3) := by decide +kernel
theorem dL_law_544 : decode cL_law 544 = .ok (.if_icmp .eq 608, 3) := by decide +kernel
theorem dL_law_547 : decode cL_law 547 = .ok (.iconst 0, 1) := by decide +kernel
theorem dL_law_548 : decode cL_law 548 = .ok (.ireturn, 1) := by decide +kernel
theorem dL_law_549 : decode cL_law 549 = .ok (.aload_n 1, 1) := by decide +kernel
theorem dL_law_550 : decode cL_law 550 = .ok (.aload_n 0, 1) := by decide +kernel
theorem dL_law_551 : decode cL_law 551 = .ok (.iload_n 3, 1) := by decide +kernel
theorem dL_law_552 : decode cL_law 552 = .ok (.iconst 1, 1) := by decide +kernel
theorem dL_law_553 : decode cL_law 553 = .ok (.iadd, 1) := by decide +kernel
theorem dL_law_554 : decode cL_law 554 = .ok (.iaload, 1) := by decide +kernel
theorem dL_law_555 : decode cL_law 555 = .ok (.aload_n 0, 1) := by decide +kernel
theorem dL_law_556 : decode cL_law 556 = .ok (.iload_n 3, 1) := by decide +kernel
theorem dL_law_557 : decode cL_law 557 = .ok (.iconst 2, 1) := by decide +kernel
theorem dL_law_558 : decode cL_law 558 = .ok (.iadd, 1) := by decide +kernel
theorem dL_law_559 : decode cL_law 559 = .ok (.iaload, 1) := by decide +kernel
theorem dL_law_560 : decode cL_law 560 = .ok (.aload_n 0, 1) := by decide +kernel
theorem dL_law_561 : decode cL_law 561 = .ok (.iload_n 3, 1) := by decide +kernel
theorem dL_law_562 : decode cL_law 562 = .ok (.iconst 3, 1) := by decide +kernel
theorem dL_law_563 : decode cL_law 563 = .ok (.iadd, 1) := by decide +kernel
theorem dL_law_564 : decode cL_law 564 = .ok (.iaload, 1) := by decide +kernel
theorem dL_law_565 : decode cL_law 565 = .ok (.invokevirtual 62, 3) := by decide +kernel
theorem dL_law_568 : decode cL_law 568 = .ok (.aload_n 2, 1) := by decide +kernel
theorem dL_law_569 : decode cL_law 569 = .ok (.aload_n 0, 1) := by decide +kernel
theorem dL_law_570 : decode cL_law 570 = .ok (.iload_n 3, 1) := by decide +kernel
theorem dL_law_571 : decode cL_law 571 = .ok (.iconst 1, 1) := by decide +kernel
theorem dL_law_572 : decode cL_law 572 = .ok (.iadd, 1) := by decide +kernel
theorem dL_law_573 : decode cL_law 573 = .ok (.iaload, 1) := by decide +kernel
theorem dL_law_574 : decode cL_law 574 = .ok (.aload_n 0, 1) := by decide +kernel
theorem dL_law_575 : decode cL_law 575 = .ok (.iload_n 3, 1) := by decide +kernel
theorem dL_law_576 : decode cL_law 576 = .ok (.iconst 2, 1) := by decide +kernel
theorem dL_law_577 : decode cL_law 577 = .ok (.iadd, 1) := by decide +kernel
theorem dL_law_578 : decode cL_law 578 = .ok (.iaload, 1) := by decide +kernel
theorem dL_law_579 : decode cL_law 579 = .ok (.aload_n 0, 1) := by decide +kernel
theorem dL_law_580 : decode cL_law 580 = .ok (.iload_n 3, 1) := by decide +kernel
theorem dL_law_581 : decode cL_law 581 = .ok (.iconst 3, 1) := by decide +kernel
theorem dL_law_582 : decode cL_law 582 = .ok (.iadd, 1) := by decide +kernel
theorem dL_law_583 : decode cL_law 583 = .ok (.iaload, 1) := by decide +kernel
theorem dL_law_584 : decode cL_law 584 = .ok (.invokevirtual 66, 3) := by decide +kernel
theorem dL_law_587 : decode cL_law 587 = .ok (.if_icmp .eq 565, 3) := by decide +kernel
theorem dL_law_590 : decode cL_law 590 = .ok (.iconst 0, 1) := by decide +kernel
theorem dL_law_591 : decode cL_law 591 = .ok (.ireturn, 1) := by decide +kernel
theorem dL_law_592 : decode cL_law 592 = .ok (.aload_n 1, 1) := by decide +kernel
theorem dL_law_593 : decode cL_law 593 = .ok (.aload_n 0, 1) := by decide +kernel
theorem dL_law_594 : decode cL_law 594 = .ok (.iload_n 3, 1) := by decide +kernel
theorem dL_law_595 : decode cL_law 595 = .ok (.iconst 1, 1) := by decide +kernel
theorem dL_law_596 : decode cL_law 596 = .ok (.iadd, 1) := by decide +kernel
theorem dL_law_597 : decode cL_law 597 = .ok (.iaload, 1) := by decide +kernel
theorem dL_law_598 : decode cL_law 598 = .ok (.invokevirtual 67, 3) := by decide +kernel
theorem dL_law_601 : decode cL_law 601 = .ok (.aload_n 2, 1) := by decide +kernel
theorem dL_law_602 : decode cL_law 602 = .ok (.aload_n 0, 1) := by decide +kernel
theorem dL_law_603 : decode cL_law 603 = .ok (.iload_n 3, 1) := by decide +kernel
theorem dL_law_604 : decode cL_law 604 = .ok (.iconst 1, 1) := by decide +kernel
theorem dL_law_605 : decode cL_law 605 = .ok (.iadd, 1) := by decide +kernel
theorem dL_law_606 : decode cL_law 606 = .ok (.iaload, 1) := by decide +kernel
theorem dL_law_607 : decode cL_law 607 = .ok (.invokevirtual 70, 3) := by decide +kernel
theorem dL_law_610 : decode cL_law 610 = .ok (.if_icmp .eq 542, 3) := by decide +kernel
theorem dL_law_613 : decode cL_law 613 = .ok (.iconst 0, 1) := by decide +kernel
theorem dL_law_614 : decode cL_law 614 = .ok (.ireturn, 1) := by decide +kernel
theorem dL_law_615 : decode cL_law 615 = .ok (.aload_n 1, 1) := by decide +kernel
theorem dL_law_616 : decode cL_law 616 = .ok (.aload_n 0, 1) := by decide +kernel
theorem dL_law_617 : decode cL_law 617 = .ok (.iload_n 3, 1) := by decide +kernel
theorem dL_law_618 : decode cL_law 618 = .ok (.iconst 1, 1) := by decide +kernel
theorem dL_law_619 : decode cL_law 619 = .ok (.iadd, 1) := by decide +kernel
theorem dL_law_620 : decode cL_law 620 = .ok (.iaload, 1) := by decide +kernel
theorem dL_law_621 : decode cL_law 621 = .ok (.invokevirtual 71, 3) := by decide +kernel
theorem dL_law_624 : decode cL_law 624 = .ok (.aload_n 2, 1) := by decide +kernel
theorem dL_law_625 : decode cL_law 625 = .ok (.aload_n 0, 1) := by decide +kernel
theorem dL_law_626 : decode cL_law 626 = .ok (.iload_n 3, 1) := by decide +kernel
theorem dL_law_627 : decode cL_law 627 = .ok (.iconst 1, 1) := by decide +kernel
theorem dL_law_628 : decode cL_law 628 = .ok (.iadd, 1) := by decide +kernel
theorem dL_law_629 : decode cL_law 629 = .ok (.iaload, 1) := by decide +kernel
theorem dL_law_630 : decode cL_law 630 = .ok (.invokevirtual 74, 3) := by decide +kernel
theorem dL_law_633 : decode cL_law 633 = .ok (.if_icmp .eq 519, 3) := by decide +kernel
theorem dL_law_636 : decode cL_law 636 = .ok (.iconst 0, 1) := by decide +kernel
theorem dL_law_637 : decode cL_law 637 = .ok (.ireturn, 1) := by decide +kernel
theorem dL_law_638 : decode cL_law 638 = .ok (.aload_n 1, 1) := by decide +kernel
theorem dL_law_639 : decode cL_law 639 = .ok (.aload_n 0, 1) := by decide +kernel
theorem dL_law_640 : decode cL_law 640 = .ok (.iload_n 3, 1) := by decide +kernel
theorem dL_law_641 : decode cL_law 641 = .ok (.iconst 1, 1) := by decide +kernel
theorem dL_law_642 : decode cL_law 642 = .ok (.iadd, 1) := by decide +kernel
theorem dL_law_643 : decode cL_law 643 = .ok (.iaload, 1) := by decide +kernel
theorem dL_law_644 : decode cL_law 644 = .ok (.aload_n 0, 1) := by decide +kernel
theorem dL_law_645 : decode cL_law 645 = .ok (.iload_n 3, 1) := by decide +kernel
theorem dL_law_646 : decode cL_law 646 = .ok (.iconst 2, 1) := by decide +kernel
theorem dL_law_647 : decode cL_law 647 = .ok (.iadd, 1) := by decide +kernel
theorem dL_law_648 : decode cL_law 648 = .ok (.iaload, 1) := by decide +kernel
theorem dL_law_649 : decode cL_law 649 = .ok (.invokevirtual 75, 3) := by decide +kernel
theorem dL_law_652 : decode cL_law 652 = .ok (.aload_n 2, 1) := by decide +kernel
theorem dL_law_653 : decode cL_law 653 = .ok (.aload_n 0, 1) := by decide +kernel
theorem dL_law_654 : decode cL_law 654 = .ok (.iload_n 3, 1) := by decide +kernel
theorem dL_law_655 : decode cL_law 655 = .ok (.iconst 1, 1) := by decide +kernel
theorem dL_law_656 : decode cL_law 656 = .ok (.iadd, 1) := by decide +kernel
theorem dL_law_657 : decode cL_law 657 = .ok (.iaload, 1) := by decide +kernel
theorem dL_law_658 : decode cL_law 658 = .ok (.aload_n 0, 1) := by decide +kernel
theorem dL_law_659 : decode cL_law 659 = .ok (.iload_n 3, 1) := by decide +kernel
theorem dL_law_660 : decode cL_law 660 = .ok (.iconst 2, 1) := by decide +kernel
theorem dL_law_661 : decode cL_law 661 = .ok (.iadd, 1) := by decide +kernel
theorem dL_law_662 : decode cL_law 662 = .ok (.iaload, 1) := by decide +kernel
theorem dL_law_663 : decode cL_law 663 = .ok (.invokevirtual 78, 3) := by decide +kernel
theorem dL_law_666 : decode cL_law 666 = .ok (.if_icmp .eq 486, 3) := by decide +kernel
theorem dL_law_669 : decode cL_law 669 = .ok (.iconst 0, 1) := by decide +kernel
theorem dL_law_670 : decode cL_law 670 = .ok (.ireturn, 1) := by decide +kernel
theorem dL_law_671 : decode cL_law 671 = .ok (.aload_n 1, 1) := by decide +kernel
theorem dL_law_672 : decode cL_law 672 = .ok (.invokevirtual 79, 3) := by decide +kernel
theorem dL_law_675 : decode cL_law 675 = .ok (.aload_n 2, 1) := by decide +kernel
theorem dL_law_676 : decode cL_law 676 = .ok (.invokevirtual 83, 3) := by decide +kernel
theorem dL_law_679 : decode cL_law 679 = .ok (.if_icmp .eq 473, 3) := by decide +kernel
theorem dL_law_682 : decode cL_law 682 = .ok (.iconst 0, 1) := by decide +kernel
theorem dL_law_683 : decode cL_law 683 = .ok (.ireturn, 1) := by decide +kernel
theorem dL_law_684 : decode cL_law 684 = .ok (.aload_n 1, 1) := by decide +kernel
theorem dL_law_685 : decode cL_law 685 = .ok (.aload_n 0, 1) := by decide +kernel
theorem dL_law_686 : decode cL_law 686 = .ok (.iload_n 3, 1) := by decide +kernel
theorem dL_law_687 : decode cL_law 687 = .ok (.iconst 1, 1) := by decide +kernel
theorem dL_law_688 : decode cL_law 688 = .ok (.iadd, 1) := by decide +kernel
theorem dL_law_689 : decode cL_law 689 = .ok (.iaload, 1) := by decide +kernel
theorem dL_law_690 : decode cL_law 690 = .ok (.invokevirtual 84, 3) := by decide +kernel
theorem dL_law_693 : decode cL_law 693 = .ok (.aload_n 2, 1) := by decide +kernel
theorem dL_law_694 : decode cL_law 694 = .ok (.aload_n 0, 1) := by decide +kernel
theorem dL_law_695 : decode cL_law 695 = .ok (.iload_n 3, 1) := by decide +kernel
theorem dL_law_696 : decode cL_law 696 = .ok (.iconst 1, 1) := by decide +kernel
theorem dL_law_697 : decode cL_law 697 = .ok (.iadd, 1) := by decide +kernel
theorem dL_law_698 : decode cL_law 698 = .ok (.iaload, 1) := by decide +kernel
theorem dL_law_699 : decode cL_law 699 = .ok (.invokevirtual 87, 3) := by decide +kernel
theorem dL_law_702 : decode cL_law 702 = .ok (.if_icmp .eq 450, 3) := by decide +kernel
theorem dL_law_705 : decode cL_law 705 = .ok (.iconst 0, 1) := by decide +kernel
theorem dL_law_706 : decode cL_law 706 = .ok (.ireturn, 1) := by decide +kernel
theorem dL_law_707 : decode cL_law 707 = .ok (.aload_n 1, 1) := by decide +kernel
theorem dL_law_708 : decode cL_law 708 = .ok (.aload_n 0, 1) := by decide +kernel
theorem dL_law_709 : decode cL_law 709 = .ok (.iload_n 3, 1) := by decide +kernel
theorem dL_law_710 : decode cL_law 710 = .ok (.iconst 1, 1) := by decide +kernel
theorem dL_law_711 : decode cL_law 711 = .ok (.iadd, 1) := by decide +kernel
theorem dL_law_712 : decode cL_law 712 = .ok (.iaload, 1) := by decide +kernel
theorem dL_law_713 : decode cL_law 713 = .ok (.aload_n 0, 1) := by decide +kernel
theorem dL_law_714 : decode cL_law 714 = .ok (.iload_n 3, 1) := by decide +kernel
theorem dL_law_715 : decode cL_law 715 = .ok (.iconst 2, 1) := by decide +kernel
theorem dL_law_716 : decode cL_law 716 = .ok (.iadd, 1) := by decide +kernel
theorem dL_law_717 : decode cL_law 717 = .ok (.iaload, 1) := by decide +kernel
theorem dL_law_718 : decode cL_law 718 = .ok (.aload_n 0, 1) := by decide +kernel
theorem dL_law_719 : decode cL_law 719 = .ok (.iload_n 3, 1) := by decide +kernel
theorem dL_law_720 : decode cL_law 720 = .ok (.iconst 3, 1) := by decide +kernel
theorem dL_law_721 : decode cL_law 721 = .ok (.iadd, 1) := by decide +kernel
theorem dL_law_722 : decode cL_law 722 = .ok (.iaload, 1) := by decide +kernel
theorem dL_law_723 : decode cL_law 723 = .ok (.invokevirtual 88, 3) := by decide +kernel
theorem dL_law_726 : decode cL_law 726 = .ok (.aload_n 2, 1) := by decide +kernel
theorem dL_law_727 : decode cL_law 727 = .ok (.aload_n 0, 1) := by decide +kernel
theorem dL_law_728 : decode cL_law 728 = .ok (.iload_n 3, 1) := by decide +kernel
theorem dL_law_729 : decode cL_law 729 = .ok (.iconst 1, 1) := by decide +kernel
theorem dL_law_730 : decode cL_law 730 = .ok (.iadd, 1) := by decide +kernel
theorem dL_law_731 : decode cL_law 731 = .ok (.iaload, 1) := by decide +kernel
theorem dL_law_732 : decode cL_law 732 = .ok (.aload_n 0, 1) := by decide +kernel
theorem dL_law_733 : decode cL_law 733 = .ok (.iload_n 3, 1) := by decide +kernel
theorem dL_law_734 : decode cL_law 734 = .ok (.iconst 2, 1) := by decide +kernel
theorem dL_law_735 : decode cL_law 735 = .ok (.iadd, 1) := by decide +kernel
theorem dL_law_736 : decode cL_law 736 = .ok (.iaload, 1) := by decide +kernel
theorem dL_law_737 : decode cL_law 737 = .ok (.aload_n 0, 1) := by decide +kernel
theorem dL_law_738 : decode cL_law 738 = .ok (.iload_n 3, 1) := by decide +kernel
theorem dL_law_739 : decode cL_law 739 = .ok (.iconst 3, 1) := by decide +kernel
theorem dL_law_740 : decode cL_law 740 = .ok (.iadd, 1) := by decide +kernel
theorem dL_law_741 : decode cL_law 741 = .ok (.iaload, 1) := by decide +kernel
theorem dL_law_742 : decode cL_law 742 = .ok (.invokevirtual 91, 3) := by decide +kernel
theorem dL_law_745 : decode cL_law 745 = .ok (.if_icmp .eq 407, 3) := by decide +kernel
theorem dL_law_748 : decode cL_law 748 = .ok (.iconst 0, 1) := by decide +kernel
theorem dL_law_749 : decode cL_law 749 = .ok (.ireturn, 1) := by decide +kernel
theorem dL_law_750 : decode cL_law 750 = .ok (.aload_n 1, 1) := by decide +kernel
theorem dL_law_751 : decode cL_law 751 = .ok (.aload_n 0, 1) := by decide +kernel
theorem dL_law_752 : decode cL_law 752 = .ok (.iload_n 3, 1) := by decide +kernel
theorem dL_law_753 : decode cL_law 753 = .ok (.iconst 1, 1) := by decide +kernel
theorem dL_law_754 : decode cL_law 754 = .ok (.iadd, 1) := by decide +kernel
theorem dL_law_755 : decode cL_law 755 = .ok (.iaload, 1) := by decide +kernel
theorem dL_law_756 : decode cL_law 756 = .ok (.invokevirtual 92, 3) := by decide +kernel
theorem dL_law_759 : decode cL_law 759 = .ok (.aload_n 2, 1) := by decide +kernel
theorem dL_law_760 : decode cL_law 760 = .ok (.aload_n 0, 1) := by decide +kernel
theorem dL_law_761 : decode cL_law 761 = .ok (.iload_n 3, 1) := by decide +kernel
theorem dL_law_762 : decode cL_law 762 = .ok (.iconst 1, 1) := by decide +kernel
theorem dL_law_763 : decode cL_law 763 = .ok (.iadd, 1) := by decide +kernel
theorem dL_law_764 : decode cL_law 764 = .ok (.iaload, 1) := by decide +kernel
theorem dL_law_765 : decode cL_law 765 = .ok (.invokevirtual 95, 3) := by decide +kernel
theorem dL_law_768 : decode cL_law 768 = .ok (.if_icmp .eq 384, 3) := by decide +kernel
theorem dL_law_771 : decode cL_law 771 = .ok (.iconst 0, 1) := by decide +kernel
theorem dL_law_772 : decode cL_law 772 = .ok (.ireturn, 1) := by decide +kernel
theorem dL_law_773 : decode cL_law 773 = .ok (.aload_n 1, 1) := by decide +kernel
theorem dL_law_774 : decode cL_law 774 = .ok (.aload_n 0, 1) := by decide +kernel
theorem dL_law_775 : decode cL_law 775 = .ok (.iload_n 3, 1) := by decide +kernel
theorem dL_law_776 : decode cL_law 776 = .ok (.iconst 1, 1) := by decide +kernel
theorem dL_law_777 : decode cL_law 777 = .ok (.iadd, 1) := by decide +kernel
theorem dL_law_778 : decode cL_law 778 = .ok (.iaload, 1) := by decide +kernel
theorem dL_law_779 : decode cL_law 779 = .ok (.invokevirtual 96, 3) := by decide +kernel
theorem dL_law_782 : decode cL_law 782 = .ok (.aload_n 2, 1) := by decide +kernel
theorem dL_law_783 : decode cL_law 783 = .ok (.aload_n 0, 1) := by decide +kernel
theorem dL_law_784 : decode cL_law 784 = .ok (.iload_n 3, 1) := by decide +kernel
theorem dL_law_785 : decode cL_law 785 = .ok (.iconst 1, 1) := by decide +kernel
theorem dL_law_786 : decode cL_law 786 = .ok (.iadd, 1) := by decide +kernel
theorem dL_law_787 : decode cL_law 787 = .ok (.iaload, 1) := by decide +kernel
theorem dL_law_788 : decode cL_law 788 = .ok (.invokevirtual 99, 3) := by decide +kernel
theorem dL_law_791 : decode cL_law 791 = .ok (.if_icmp .eq 361, 3) := by decide +kernel
theorem dL_law_794 : decode cL_law 794 = .ok (.iconst 0, 1) := by decide +kernel
theorem dL_law_795 : decode cL_law 795 = .ok (.ireturn, 1) := by decide +kernel
theorem dL_law_796 : decode cL_law 796 = .ok (.aload_n 1, 1) := by decide +kernel
theorem dL_law_797 : decode cL_law 797 = .ok (.aload_n 0, 1) := by decide +kernel
theorem dL_law_798 : decode cL_law 798 = .ok (.iload_n 3, 1) := by decide +kernel
theorem dL_law_799 : decode cL_law 799 = .ok (.iconst 1, 1) := by decide +kernel
theorem dL_law_800 : decode cL_law 800 = .ok (.iadd, 1) := by decide +kernel
theorem dL_law_801 : decode cL_law 801 = .ok (.iaload, 1) := by decide +kernel
theorem dL_law_802 : decode cL_law 802 = .ok (.aload_n 0, 1) := by decide +kernel
theorem dL_law_803 : decode cL_law 803 = .ok (.iload_n 3, 1) := by decide +kernel
theorem dL_law_804 : decode cL_law 804 = .ok (.iconst 2, 1) := by decide +kernel
theorem dL_law_805 : decode cL_law 805 = .ok (.iadd, 1) := by decide +kernel
theorem dL_law_806 : decode cL_law 806 = .ok (.iaload, 1) := by decide +kernel
theorem dL_law_807 : decode cL_law 807 = .ok (.aload_n 0, 1) := by decide +kernel
theorem dL_law_808 : decode cL_law 808 = .ok (.iload_n 3, 1) := by decide +kernel
theorem dL_law_809 : decode cL_law 809 = .ok (.iconst 3, 1) := by decide +kernel
theorem dL_law_810 : decode cL_law 810 = .ok (.iadd, 1) := by decide +kernel
theorem dL_law_811 : decode cL_law 811 = .ok (.iaload, 1) := by decide +kernel
theorem dL_law_812 : decode cL_law 812 = .ok (.invokevirtual 100, 3) := by decide +kernel
theorem dL_law_815 : decode cL_law 815 = .ok (.aload_n 2, 1) := by decide +kernel
theorem dL_law_816 : decode cL_law 816 = .ok (.aload_n 0, 1) := by decide +kernel
theorem dL_law_817 : decode cL_law 817 = .ok (.iload_n 3, 1) := by decide +kernel
theorem dL_law_818 : decode cL_law 818 = .ok (.iconst 1, 1) := by decide +kernel
theorem dL_law_819 : decode cL_law 819 = .ok (.iadd, 1) := by decide +kernel
theorem dL_law_820 : decode cL_law 820 = .ok (.iaload, 1) := by decide +kernel
theorem dL_law_821 : decode cL_law 821 = .ok (.aload_n 0, 1) := by decide +kernel
theorem dL_law_822 : decode cL_law 822 = .ok (.iload_n 3, 1) := by decide +kernel
theorem dL_law_823 : decode cL_law 823 = .ok (.iconst 2, 1) := by decide +kernel
theorem dL_law_824 : decode cL_law 824 = .ok (.iadd, 1) := by decide +kernel
theorem dL_law_825 : decode cL_law 825 = .ok (.iaload, 1) := by decide +kernel
theorem dL_law_826 : decode cL_law 826 = .ok (.aload_n 0, 1) := by decide +kernel
theorem dL_law_827 : decode cL_law 827 = .ok (.iload_n 3, 1) := by decide +kernel
theorem dL_law_828 : decode cL_law 828 = .ok (.iconst 3, 1) := by decide +kernel
theorem dL_law_829 : decode cL_law 829 = .ok (.iadd, 1) := by decide +kernel
theorem dL_law_830 : decode cL_law 830 = .ok (.iaload, 1) := by decide +kernel
theorem dL_law_831 : decode cL_law 831 = .ok (.invokevirtual 103, 3) := by decide +kernel
theorem dL_law_834 : decode cL_law 834 = .ok (.if_icmp .eq 318, 3) := by decide +kernel
theorem dL_law_837 : decode cL_law 837 = .ok (.iconst 0, 1) := by decide +kernel
theorem dL_law_838 : decode cL_law 838 = .ok (.ireturn, 1) := by decide +kernel
theorem dL_law_839 : decode cL_law 839 = .ok (.aload_n 1, 1) := by decide +kernel
theorem dL_law_840 : decode cL_law 840 = .ok (.aload_n 0, 1) := by decide +kernel
theorem dL_law_841 : decode cL_law 841 = .ok (.iload_n 3, 1) := by decide +kernel
theorem dL_law_842 : decode cL_law 842 = .ok (.iconst 1, 1) := by decide +kernel
theorem dL_law_843 : decode cL_law 843 = .ok (.iadd, 1) := by decide +kernel
theorem dL_law_844 : decode cL_law 844 = .ok (.iaload, 1) := by decide +kernel
theorem dL_law_845 : decode cL_law 845 = .ok (.aload_n 0, 1) := by decide +kernel
theorem dL_law_846 : decode cL_law 846 = .ok (.iload_n 3, 1) := by decide +kernel
theorem dL_law_847 : decode cL_law 847 = .ok (.iconst 2, 1) := by decide +kernel
theorem dL_law_848 : decode cL_law 848 = .ok (.iadd, 1) := by decide +kernel
theorem dL_law_849 : decode cL_law 849 = .ok (.iaload, 1) := by decide +kernel
theorem dL_law_850 : decode cL_law 850 = .ok (.invokevirtual 104, 3) := by decide +kernel
theorem dL_law_853 : decode cL_law 853 = .ok (.aload_n 2, 1) := by decide +kernel
theorem dL_law_854 : decode cL_law 854 = .ok (.aload_n 0, 1) := by decide +kernel
theorem dL_law_855 : decode cL_law 855 = .ok (.iload_n 3, 1) := by decide +kernel
theorem dL_law_856 : decode cL_law 856 = .ok (.iconst 1, 1) := by decide +kernel
theorem dL_law_857 : decode cL_law 857 = .ok (.iadd, 1) := by decide +kernel
theorem dL_law_858 : decode cL_law 858 = .ok (.iaload, 1) := by decide +kernel
theorem dL_law_859 : decode cL_law 859 = .ok (.aload_n 0, 1) := by decide +kernel
theorem dL_law_860 : decode cL_law 860 = .ok (.iload_n 3, 1) := by decide +kernel
theorem dL_law_861 : decode cL_law 861 = .ok (.iconst 2, 1) := by decide +kernel
theorem dL_law_862 : decode cL_law 862 = .ok (.iadd, 1) := by decide +kernel
theorem dL_law_863 : decode cL_law 863 = .ok (.iaload, 1) := by decide +kernel
theorem dL_law_864 : decode cL_law 864 = .ok (.invokevirtual 107, 3) := by decide +kernel
theorem dL_law_867 : decode cL_law 867 = .ok (.if_icmp .eq 285, 3) := by decide +kernel
theorem dL_law_870 : decode cL_law 870 = .ok (.iconst 0, 1) := by decide +kernel
theorem dL_law_871 : decode cL_law 871 = .ok (.ireturn, 1) := by decide +kernel
theorem dL_law_872 : decode cL_law 872 = .ok (.aload_n 1, 1) := by decide +kernel
theorem dL_law_873 : decode cL_law 873 = .ok (.aload_n 0, 1) := by decide +kernel
theorem dL_law_874 : decode cL_law 874 = .ok (.iload_n 3, 1) := by decide +kernel
theorem dL_law_875 : decode cL_law 875 = .ok (.iconst 1, 1) := by decide +kernel
theorem dL_law_876 : decode cL_law 876 = .ok (.iadd, 1) := by decide +kernel
theorem dL_law_877 : decode cL_law 877 = .ok (.iaload, 1) := by decide +kernel
theorem dL_law_878 : decode cL_law 878 = .ok (.aload_n 0, 1) := by decide +kernel
theorem dL_law_879 : decode cL_law 879 = .ok (.iload_n 3, 1) := by decide +kernel
theorem dL_law_880 : decode cL_law 880 = .ok (.iconst 2, 1) := by decide +kernel
theorem dL_law_881 : decode cL_law 881 = .ok (.iadd, 1) := by decide +kernel
theorem dL_law_882 : decode cL_law 882 = .ok (.iaload, 1) := by decide +kernel
theorem dL_law_883 : decode cL_law 883 = .ok (.aload_n 0, 1) := by decide +kernel
theorem dL_law_884 : decode cL_law 884 = .ok (.iload_n 3, 1) := by decide +kernel
theorem dL_law_885 : decode cL_law 885 = .ok (.iconst 3, 1) := by decide +kernel
theorem dL_law_886 : decode cL_law 886 = .ok (.iadd, 1) := by decide +kernel
theorem dL_law_887 : decode cL_law 887 = .ok (.iaload, 1) := by decide +kernel
theorem dL_law_888 : decode cL_law 888 = .ok (.invokevirtual 108, 3) := by decide +kernel
theorem dL_law_891 : decode cL_law 891 = .ok (.aload_n 2, 1) := by decide +kernel
theorem dL_law_892 : decode cL_law 892 = .ok (.aload_n 0, 1) := by decide +kernel
theorem dL_law_893 : decode cL_law 893 = .ok (.iload_n 3, 1) := by decide +kernel
theorem dL_law_894 : decode cL_law 894 = .ok (.iconst 1, 1) := by decide +kernel
theorem dL_law_895 : decode cL_law 895 = .ok (.iadd, 1) := by decide +kernel
theorem dL_law_896 : decode cL_law 896 = .ok (.iaload, 1) := by decide +kernel
theorem dL_law_897 : decode cL_law 897 = .ok (.aload_n 0, 1) := by decide +kernel
theorem dL_law_898 : decode cL_law 898 = .ok (.iload_n 3, 1) := by decide +kernel
theorem dL_law_899 : decode cL_law 899 = .ok (.iconst 2, 1) := by decide +kernel
theorem dL_law_900 : decode cL_law 900 = .ok (.iadd, 1) := by decide +kernel
theorem dL_law_901 : decode cL_law 901 = .ok (.iaload, 1) := by decide +kernel
theorem dL_law_902 : decode cL_law 902 = .ok (.aload_n 0, 1) := by decide +kernel
theorem dL_law_903 : decode cL_law 903 = .ok (.iload_n 3, 1) := by decide +kernel
theorem dL_law_904 : decode cL_law 904 = .ok (.iconst 3, 1) := by decide +kernel
theorem dL_law_905 : decode cL_law 905 = .ok (.iadd, 1) := by decide +kernel
theorem dL_law_906 : decode cL_law 906 = .ok (.iaload, 1) := by decide +kernel
theorem dL_law_907 : decode cL_law 907 = .ok (.invokevirtual 111, 3) := by decide +kernel
theorem dL_law_910 : decode cL_law 910 = .ok (.if_icmp .eq 242, 3) := by decide +kernel
theorem dL_law_913 : decode cL_law 913 = .ok (.iconst 0, 1) := by decide +kernel
theorem dL_law_914 : decode cL_law 914 = .ok (.ireturn, 1) := by decide +kernel
theorem dL_law_915 : decode cL_law 915 = .ok (.aload_n 1, 1) := by decide +kernel
theorem dL_law_916 : decode cL_law 916 = .ok (.aload_n 0, 1) := by decide +kernel
theorem dL_law_917 : decode cL_law 917 = .ok (.iload_n 3, 1) := by decide +kernel
theorem dL_law_918 : decode cL_law 918 = .ok (.iconst 1, 1) := by decide +kernel
theorem dL_law_919 : decode cL_law 919 = .ok (.iadd, 1) := by decide +kernel
theorem dL_law_920 : decode cL_law 920 = .ok (.iaload, 1) := by decide +kernel
theorem dL_law_921 : decode cL_law 921 = .ok (.aload_n 0, 1) := by decide +kernel
theorem dL_law_922 : decode cL_law 922 = .ok (.iload_n 3, 1) := by decide +kernel
theorem dL_law_923 : decode cL_law 923 = .ok (.iconst 2, 1) := by decide +kernel
theorem dL_law_924 : decode cL_law 924 = .ok (.iadd, 1) := by decide +kernel
theorem dL_law_925 : decode cL_law 925 = .ok (.iaload, 1) := by decide +kernel
theorem dL_law_926 : decode cL_law 926 = .ok (.aload_n 0, 1) := by decide +kernel
theorem dL_law_927 : decode cL_law 927 = .ok (.iload_n 3, 1) := by decide +kernel
theorem dL_law_928 : decode cL_law 928 = .ok (.iconst 3, 1) := by decide +kernel
theorem dL_law_929 : decode cL_law 929 = .ok (.iadd, 1) := by decide +kernel
theorem dL_law_930 : decode cL_law 930 = .ok (.iaload, 1) := by decide +kernel
theorem dL_law_931 : decode cL_law 931 = .ok (.invokevirtual 112, 3) := by decide +kernel
theorem dL_law_934 : decode cL_law 934 = .ok (.aload_n 2, 1) := by decide +kernel
theorem dL_law_935 : decode cL_law 935 = .ok (.aload_n 0, 1) := by decide +kernel
theorem dL_law_936 : decode cL_law 936 = .ok (.iload_n 3, 1) := by decide +kernel
theorem dL_law_937 : decode cL_law 937 = .ok (.iconst 1, 1) := by decide +kernel
theorem dL_law_938 : decode cL_law 938 = .ok (.iadd, 1) := by decide +kernel
theorem dL_law_939 : decode cL_law 939 = .ok (.iaload, 1) := by decide +kernel
theorem dL_law_940 : decode cL_law 940 = .ok (.aload_n 0, 1) := by decide +kernel
theorem dL_law_941 : decode cL_law 941 = .ok (.iload_n 3, 1) := by decide +kernel
theorem dL_law_942 : decode cL_law 942 = .ok (.iconst 2, 1) := by decide +kernel
theorem dL_law_943 : decode cL_law 943 = .ok (.iadd, 1) := by decide +kernel
theorem dL_law_944 : decode cL_law 944 = .ok (.iaload, 1) := by decide +kernel
theorem dL_law_945 : decode cL_law 945 = .ok (.aload_n 0, 1) := by decide +kernel
theorem dL_law_946 : decode cL_law 946 = .ok (.iload_n 3, 1) := by decide +kernel
theorem dL_law_947 : decode cL_law 947 = .ok (.iconst 3, 1) := by decide +kernel
theorem dL_law_948 : decode cL_law 948 = .ok (.iadd, 1) := by decide +kernel
theorem dL_law_949 : decode cL_law 949 = .ok (.iaload, 1) := by decide +kernel
theorem dL_law_950 : decode cL_law 950 = .ok (.invokevirtual 115, 3) := by decide +kernel
theorem dL_law_953 : decode cL_law 953 = .ok (.if_icmp .eq 199, 3) := by decide +kernel
theorem dL_law_956 : decode cL_law 956 = .ok (.iconst 0, 1) := by decide +kernel
theorem dL_law_957 : decode cL_law 957 = .ok (.ireturn, 1) := by decide +kernel
theorem dL_law_958 : decode cL_law 958 = .ok (.aload_n 1, 1) := by decide +kernel
theorem dL_law_959 : decode cL_law 959 = .ok (.aload_n 0, 1) := by decide +kernel
theorem dL_law_960 : decode cL_law 960 = .ok (.iload_n 3, 1) := by decide +kernel
theorem dL_law_961 : decode cL_law 961 = .ok (.iconst 1, 1) := by decide +kernel
theorem dL_law_962 : decode cL_law 962 = .ok (.iadd, 1) := by decide +kernel
theorem dL_law_963 : decode cL_law 963 = .ok (.iaload, 1) := by decide +kernel
theorem dL_law_964 : decode cL_law 964 = .ok (.aload_n 0, 1) := by decide +kernel
theorem dL_law_965 : decode cL_law 965 = .ok (.iload_n 3, 1) := by decide +kernel
theorem dL_law_966 : decode cL_law 966 = .ok (.iconst 2, 1) := by decide +kernel
theorem dL_law_967 : decode cL_law 967 = .ok (.iadd, 1) := by decide +kernel
theorem dL_law_968 : decode cL_law 968 = .ok (.iaload, 1) := by decide +kernel
theorem dL_law_969 : decode cL_law 969 = .ok (.invokevirtual 116, 3) := by decide +kernel
theorem dL_law_972 : decode cL_law 972 = .ok (.aload_n 2, 1) := by decide +kernel
theorem dL_law_973 : decode cL_law 973 = .ok (.aload_n 0, 1) := by decide +kernel
theorem dL_law_974 : decode cL_law 974 = .ok (.iload_n 3, 1) := by decide +kernel
theorem dL_law_975 : decode cL_law 975 = .ok (.iconst 1, 1) := by decide +kernel
theorem dL_law_976 : decode cL_law 976 = .ok (.iadd, 1) := by decide +kernel
theorem dL_law_977 : decode cL_law 977 = .ok (.iaload, 1) := by decide +kernel
theorem dL_law_978 : decode cL_law 978 = .ok (.aload_n 0, 1) := by decide +kernel
theorem dL_law_979 : decode cL_law 979 = .ok (.iload_n 3, 1) := by decide +kernel
theorem dL_law_980 : decode cL_law 980 = .ok (.iconst 2, 1) := by decide +kernel
theorem dL_law_981 : decode cL_law 981 = .ok (.iadd, 1) := by decide +kernel
theorem dL_law_982 : decode cL_law 982 = .ok (.iaload, 1) := by decide +kernel
theorem dL_law_983 : decode cL_law 983 = .ok (.invokevirtual 119, 3) := by decide +kernel
theorem dL_law_986 : decode cL_law 986 = .ok (.if_icmp .eq 166, 3) := by decide +kernel
theorem dL_law_989 : decode cL_law 989 = .ok (.iconst 0, 1) := by decide +kernel
theorem dL_law_990 : decode cL_law 990 = .ok (.ireturn, 1) := by decide +kernel
theorem dL_law_991 : decode cL_law 991 = .ok (.aload_n 1, 1) := by decide +kernel
theorem dL_law_992 : decode cL_law 992 = .ok (.aload_n 0, 1) := by decide +kernel
theorem dL_law_993 : decode cL_law 993 = .ok (.iload_n 3, 1) := by decide +kernel
theorem dL_law_994 : decode cL_law 994 = .ok (.iconst 1, 1) := by decide +kernel
theorem dL_law_995 : decode cL_law 995 = .ok (.iadd, 1) := by decide +kernel
theorem dL_law_996 : decode cL_law 996 = .ok (.iaload, 1) := by decide +kernel
theorem dL_law_997 : decode cL_law 997 = .ok (.aload_n 0, 1) := by decide +kernel
theorem dL_law_998 : decode cL_law 998 = .ok (.iload_n 3, 1) := by decide +kernel
theorem dL_law_999 : decode cL_law 999 = .ok (.iconst 2, 1) := by decide +kernel
theorem dL_law_1000 : decode cL_law 1000 = .ok (.iadd, 1) := by decide +kernel
theorem dL_law_1001 : decode cL_law 1001 = .ok (.iaload, 1) := by decide +kernel
theorem dL_law_1002 : decode cL_law 1002 = .ok (.invokevirtual 120, 3) := by decide +kernel
theorem dL_law_1005 : decode cL_law 1005 = .ok (.aload_n 2, 1) := by decide +kernel
theorem dL_law_1006 : decode cL_law 1006 = .ok (.aload_n 0, 1) := by decide +kernel
theorem dL_law_1007 : decode cL_law 1007 = .ok (.iload_n 3, 1) := by decide +kernel
theorem dL_law_1008 : decode cL_law 1008 = .ok (.iconst 1, 1) := by decide +kernel
theorem dL_law_1009 : decode cL_law 1009 = .ok (.iadd, 1) := by decide +kernel
theorem dL_law_1010 : decode cL_law 1010 = .ok (.iaload, 1) := by decide +kernel
theorem dL_law_1011 : decode cL_law 1011 = .ok (.aload_n 0, 1) := by decide +kernel
theorem dL_law_1012 : decode cL_law 1012 = .ok (.iload_n 3, 1) := by decide +kernel
theorem dL_law_1013 : decode cL_law 1013 = .ok (.iconst 2, 1) := by decide +kernel
theorem dL_law_1014 : decode cL_law 1014 = .ok (.iadd, 1) := by decide +kernel
theorem dL_law_1015 : decode cL_law 1015 = .ok (.iaload, 1) := by decide +kernel
theorem dL_law_1016 : decode cL_law 1016 = .ok (.invokevirtual 123, 3) := by decide +kernel
theorem dL_law_1019 : decode cL_law 1019 = .ok (.if_icmp .eq 133, 3) := by decide +kernel
theorem dL_law_1022 : decode cL_law 1022 = .ok (.iconst 0, 1) := by decide +kernel
theorem dL_law_1023 : decode cL_law 1023 = .ok (.ireturn, 1) := by decide +kernel
theorem dL_law_1024 : decode cL_law 1024 = .ok (.aload_n 1, 1) := by decide +kernel
theorem dL_law_1025 : decode cL_law 1025 = .ok (.aload_n 0, 1) := by decide +kernel
theorem dL_law_1026 : decode cL_law 1026 = .ok (.iload_n 3, 1) := by decide +kernel
theorem dL_law_1027 : decode cL_law 1027 = .ok (.iconst 1, 1) := by decide +kernel
theorem dL_law_1028 : decode cL_law 1028 = .ok (.iadd, 1) := by decide +kernel
theorem dL_law_1029 : decode cL_law 1029 = .ok (.iaload, 1) := by decide +kernel
theorem dL_law_1030 : decode cL_law 1030 = .ok (.aload_n 0, 1) := by decide +kernel
theorem dL_law_1031 : decode cL_law 1031 = .ok (.iload_n 3, 1) := by decide +kernel
theorem dL_law_1032 : decode cL_law 1032 = .ok (.iconst 2, 1) := by decide +kernel
theorem dL_law_1033 : decode cL_law 1033 = .ok (.iadd, 1) := by decide +kernel
theorem dL_law_1034 : decode cL_law 1034 = .ok (.iaload, 1) := by decide +kernel
theorem dL_law_1035 : decode cL_law 1035 = .ok (.invokevirtual 124, 3) := by decide +kernel
theorem dL_law_1038 : decode cL_law 1038 = .ok (.aload_n 2, 1) := by decide +kernel
theorem dL_law_1039 : decode cL_law 1039 = .ok (.aload_n 0, 1) := by decide +kernel
theorem dL_law_1040 : decode cL_law 1040 = .ok (.iload_n 3, 1) := by decide +kernel
theorem dL_law_1041 : decode cL_law 1041 = .ok (.iconst 1, 1) := by decide +kernel
theorem dL_law_1042 : decode cL_law 1042 = .ok (.iadd, 1) := by decide +kernel
theorem dL_law_1043 : decode cL_law 1043 = .ok (.iaload, 1) := by decide +kernel
theorem dL_law_1044 : decode cL_law 1044 = .ok (.aload_n 0, 1) := by decide +kernel
theorem dL_law_1045 : decode cL_law 1045 = .ok (.iload_n 3, 1) := by decide +kernel
theorem dL_law_1046 : decode cL_law 1046 = .ok (.iconst 2, 1) := by decide +kernel
theorem dL_law_1047 : decode cL_law 1047 = .ok (.iadd, 1) := by decide +kernel
theorem dL_law_1048 : decode cL_law 1048 = .ok (.iaload, 1) := by decide +kernel
theorem dL_law_1049 : decode cL_law 1049 = .ok (.invokevirtual 127, 3) := by decide +kernel
theorem dL_law_1052 : decode cL_law 1052 = .ok (.if_icmp .eq 100, 3) := by decide +kernel
theorem dL_law_1055 : decode cL_law 1055 = .ok (.iconst 0, 1) := by decide +kernel
theorem dL_law_1056 : decode cL_law 1056 = .ok (.ireturn, 1) := by decide +kernel
theorem dL_law_1057 : decode cL_law 1057 = .ok (.aload_n 1, 1) := by decide +kernel
theorem dL_law_1058 : decode cL_law 1058 = .ok (.aload_n 0, 1) := by decide +kernel
theorem dL_law_1059 : decode cL_law 1059 = .ok (.iload_n 3, 1) := by decide +kernel
theorem dL_law_1060 : decode cL_law 1060 = .ok (.iconst 1, 1) := by decide +kernel
theorem dL_law_1061 : decode cL_law 1061 = .ok (.iadd, 1) := by decide +kernel
theorem dL_law_1062 : decode cL_law 1062 = .ok (.iaload, 1) := by decide +kernel
theorem dL_law_1063 : decode cL_law 1063 = .ok (.invokevirtual 128, 3) := by decide +kernel
theorem dL_law_1066 : decode cL_law 1066 = .ok (.aload_n 2, 1) := by decide +kernel
theorem dL_law_1067 : decode cL_law 1067 = .ok (.aload_n 0, 1) := by decide +kernel
theorem dL_law_1068 : decode cL_law 1068 = .ok (.iload_n 3, 1) := by decide +kernel
theorem dL_law_1069 : decode cL_law 1069 = .ok (.iconst 1, 1) := by decide +kernel
theorem dL_law_1070 : decode cL_law 1070 = .ok (.iadd, 1) := by decide +kernel
theorem dL_law_1071 : decode cL_law 1071 = .ok (.iaload, 1) := by decide +kernel
theorem dL_law_1072 : decode cL_law 1072 = .ok (.invokevirtual 132, 3) := by decide +kernel
theorem dL_law_1075 : decode cL_law 1075 = .ok (.if_icmp .eq 77, 3) := by decide +kernel
theorem dL_law_1078 : decode cL_law 1078 = .ok (.iconst 0, 1) := by decide +kernel
theorem dL_law_1079 : decode cL_law 1079 = .ok (.ireturn, 1) := by decide +kernel
theorem dL_law_1080 : decode cL_law 1080 = .ok (.aload_n 1, 1) := by decide +kernel
theorem dL_law_1081 : decode cL_law 1081 = .ok (.invokevirtual 133, 3) := by decide +kernel
theorem dL_law_1084 : decode cL_law 1084 = .ok (.aload_n 2, 1) := by decide +kernel
theorem dL_law_1085 : decode cL_law 1085 = .ok (.invokevirtual 136, 3) := by decide +kernel
theorem dL_law_1088 : decode cL_law 1088 = .ok (.if_icmp .eq 64, 3) := by decide +kernel
theorem dL_law_1091 : decode cL_law 1091 = .ok (.iconst 0, 1) := by decide +kernel
theorem dL_law_1092 : decode cL_law 1092 = .ok (.ireturn, 1) := by decide +kernel
theorem dL_law_1093 : decode cL_law 1093 = .ok (.aload_n 1, 1) := by decide +kernel
theorem dL_law_1094 : decode cL_law 1094 = .ok (.invokevirtual 137, 3) := by decide +kernel
theorem dL_law_1097 : decode cL_law 1097 = .ok (.aload_n 2, 1) := by decide +kernel
theorem dL_law_1098 : decode cL_law 1098 = .ok (.invokevirtual 141, 3) := by decide +kernel
theorem dL_law_1101 : decode cL_law 1101 = .ok (.if_icmp .eq 51, 3) := by decide +kernel
theorem dL_law_1104 : decode cL_law 1104 = .ok (.iconst 0, 1) := by decide +kernel
theorem dL_law_1105 : decode cL_law 1105 = .ok (.ireturn, 1) := by decide +kernel
theorem dL_law_1106 : decode cL_law 1106 = .ok (.aload_n 1, 1) := by decide +kernel
theorem dL_law_1107 : decode cL_law 1107 = .ok (.aload_n 0, 1) := by decide +kernel
theorem dL_law_1108 : decode cL_law 1108 = .ok (.iload_n 3, 1) := by decide +kernel
theorem dL_law_1109 : decode cL_law 1109 = .ok (.iconst 1, 1) := by decide +kernel
theorem dL_law_1110 : decode cL_law 1110 = .ok (.iadd, 1) := by decide +kernel
theorem dL_law_1111 : decode cL_law 1111 = .ok (.iaload, 1) := by decide +kernel
theorem dL_law_1112 : decode cL_law 1112 = .ok (.invokevirtual 142, 3) := by decide +kernel
theorem dL_law_1115 : decode cL_law 1115 = .ok (.aload_n 2, 1) := by decide +kernel
theorem dL_law_1116 : decode cL_law 1116 = .ok (.aload_n 0, 1) := by decide +kernel
theorem dL_law_1117 : decode cL_law 1117 = .ok (.iload_n 3, 1) := by decide +kernel
theorem dL_law_1118 : decode cL_law 1118 = .ok (.iconst 1, 1) := by decide +kernel
theorem dL_law_1119 : decode cL_law 1119 = .ok (.iadd, 1) := by decide +kernel
theorem dL_law_1120 : decode cL_law 1120 = .ok (.iaload, 1) := by decide +kernel
theorem dL_law_1121 : decode cL_law 1121 = .ok (.invokevirtual 145, 3) := by decide +kernel
theorem dL_law_1124 : decode cL_law 1124 = .ok (.if_icmp .eq 28, 3) := by decide +kernel
theorem dL_law_1127 : decode cL_law 1127 = .ok (.iconst 0, 1) := by decide +kernel
theorem dL_law_1128 : decode cL_law 1128 = .ok (.ireturn, 1) := by decide +kernel
theorem dL_law_1129 : decode cL_law 1129 = .ok (.aload_n 1, 1) := by decide +kernel
theorem dL_law_1130 : decode cL_law 1130 = .ok (.aload_n 0, 1) := by decide +kernel
theorem dL_law_1131 : decode cL_law 1131 = .ok (.iload_n 3, 1) := by decide +kernel
theorem dL_law_1132 : decode cL_law 1132 = .ok (.iconst 1, 1) := by decide +kernel
theorem dL_law_1133 : decode cL_law 1133 = .ok (.iadd, 1) := by decide +kernel
theorem dL_law_1134 : decode cL_law 1134 = .ok (.iaload, 1) := by decide +kernel
theorem dL_law_1135 : decode cL_law 1135 = .ok (.invokevirtual 146, 3) := by decide +kernel
theorem dL_law_1138 : decode cL_law 1138 = .ok (.aload_n 2, 1) := by decide +kernel
theorem dL_law_1139 : decode cL_law 1139 = .ok (.aload_n 0, 1) := by decide +kernel
theorem dL_law_1140 : decode cL_law 1140 = .ok (.iload_n 3, 1) := by decide +kernel
theorem dL_law_1141 : decode cL_law 1141 = .ok (.iconst 1, 1) := by decide +kernel
theorem dL_law_1142 : decode cL_law 1142 = .ok (.iadd, 1) := by decide +kernel
theorem dL_law_1143 : decode cL_law 1143 = .ok (.iaload, 1) := by decide +kernel
theorem dL_law_1144 : decode cL_law 1144 = .ok (.invokevirtual 149, 3) := by decide +kernel
theorem dL_law_1147 : decode cL_law 1147 = .ok (.if_icmp .eq 5, 3) := by decide +kernel
theorem dL_law_1150 : decode cL_law 1150 = .ok (.iconst 0, 1) := by decide +kernel
theorem dL_law_1151 : decode cL_law 1151 = .ok (.ireturn, 1) := by decide +kernel
theorem dL_law_1152 : decode cL_law 1152 = .ok (.iinc 3 6, 3) := by decide +kernel
theorem dL_law_1155 : decode cL_law 1155 = .ok (.goto (-1137), 3) := by decide +kernel
theorem dL_law_1158 : decode cL_law 1158 = .ok (.iconst 1, 1) := by decide +kernel
theorem dL_law_1159 : decode cL_law 1159 = .ok (.ireturn, 1) := by decide +kernel
