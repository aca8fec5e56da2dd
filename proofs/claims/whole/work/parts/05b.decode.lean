theorem dX5_know_106 : decode cX5_know 106 = .ok (.getfield 17, 3) := by decide +kernel
theorem dX5_know_109 : decode cX5_know 109 = .ok (.bipush 7, 2) := by decide +kernel
theorem dX5_know_111 : decode cX5_know 111 = .ok (.aload_n 1, 1) := by decide +kernel
theorem dX5_know_112 : decode cX5_know 112 = .ok (.getfield 97, 3) := by decide +kernel
theorem dX5_know_115 : decode cX5_know 115 = .ok (.invokestatic 75, 3) := by decide +kernel
theorem dX5_know_118 : decode cX5_know 118 = .ok (.return_, 1) := by decide +kernel
theorem dX5_tempt_0 : decode cX5_tempt 0 = .ok (.aload_n 2, 1) := by decide +kernel
theorem dX5_tempt_1 : decode cX5_tempt 1 = .ok (.aload_n 0, 1) := by decide +kernel
theorem dX5_tempt_2 : decode cX5_tempt 2 = .ok (.getfield 17, 3) := by decide +kernel
theorem dX5_tempt_5 : decode cX5_tempt 5 = .ok (.invokevirtual 100, 3) := by decide +kernel
theorem dX5_tempt_8 : decode cX5_tempt 8 = .ok (.ifCond .eq 4, 3) := by decide +kernel
theorem dX5_tempt_11 : decode cX5_tempt 11 = .ok (.return_, 1) := by decide +kernel
theorem dX5_tempt_12 : decode cX5_tempt 12 = .ok (.aload_n 2, 1) := by decide +kernel
theorem dX5_tempt_13 : decode cX5_tempt 13 = .ok (.bipush 114, 2) := by decide +kernel
theorem dX5_tempt_15 : decode cX5_tempt 15 = .ok (.bipush 10, 2) := by decide +kernel
theorem dX5_tempt_17 : decode cX5_tempt 17 = .ok (.aload_n 0, 1) := by decide +kernel
theorem dX5_tempt_18 : decode cX5_tempt 18 = .ok (.getfield 17, 3) := by decide +kernel
theorem dX5_tempt_21 : decode cX5_tempt 21 = .ok (.invokevirtual 104, 3) := by decide +kernel
theorem dX5_tempt_24 : decode cX5_tempt 24 = .ok (.istore 4, 2) := by decide +kernel
theorem dX5_tempt_26 : decode cX5_tempt 26 = .ok (.aload_n 1, 1) := by decide +kernel
theorem dX5_tempt_27 : decode cX5_tempt 27 = .ok (.invokevirtual 108, 3) := by decide +kernel
theorem dX5_tempt_30 : decode cX5_tempt 30 = .ok (.iload 4, 2) := by decide +kernel
theorem dX5_tempt_32 : decode cX5_tempt 32 = .ok (.if_icmp .ge 7, 3) := by decide +kernel
theorem dX5_tempt_35 : decode cX5_tempt 35 = .ok (.iconst 1, 1) := by decide +kernel
theorem dX5_tempt_36 : decode cX5_tempt 36 = .ok (.goto 4, 3) := by decide +kernel
theorem dX5_tempt_39 : decode cX5_tempt 39 = .ok (.iconst 0, 1) := by decide +kernel
theorem dX5_tempt_40 : decode cX5_tempt 40 = .ok (.istore 5, 2) := by decide +kernel
theorem dX5_tempt_42 : decode cX5_tempt 42 = .ok (.aload_n 0, 1) := by decide +kernel
theorem dX5_tempt_43 : decode cX5_tempt 43 = .ok (.getfield 9, 3) := by decide +kernel
theorem dX5_tempt_46 : decode cX5_tempt 46 = .ok (.iload_n 3, 1) := by decide +kernel
theorem dX5_tempt_47 : decode cX5_tempt 47 = .ok (.invokestatic 49, 3) := by decide +kernel
theorem dX5_tempt_50 : decode cX5_tempt 50 = .ok (.ifCond .le 24, 3) := by decide +kernel
theorem dX5_tempt_53 : decode cX5_tempt 53 = .ok (.aload_n 0, 1) := by decide +kernel
theorem dX5_tempt_54 : decode cX5_tempt 54 = .ok (.aload_n 1, 1) := by decide +kernel
theorem dX5_tempt_55 : decode cX5_tempt 55 = .ok (.iload_n 3, 1) := by decide +kernel
theorem dX5_tempt_56 : decode cX5_tempt 56 = .ok (.aload_n 2, 1) := by decide +kernel
theorem dX5_tempt_57 : decode cX5_tempt 57 = .ok (.bipush 119, 2) := by decide +kernel
theorem dX5_tempt_59 : decode cX5_tempt 59 = .ok (.bipush 99, 2) := by decide +kernel
theorem dX5_tempt_61 : decode cX5_tempt 61 = .ok (.aload_n 0, 1) := by decide +kernel
theorem dX5_tempt_62 : decode cX5_tempt 62 = .ok (.getfield 17, 3) := by decide +kernel
theorem dX5_tempt_65 : decode cX5_tempt 65 = .ok (.invokevirtual 104, 3) := by decide +kernel
theorem dX5_tempt_68 : decode cX5_tempt 68 = .ok (.invokevirtual 112, 3) := by decide +kernel
theorem dX5_tempt_71 : decode cX5_tempt 71 = .ok (.goto 56, 3) := by decide +kernel
theorem dX5_tempt_74 : decode cX5_tempt 74 = .ok (.iload 5, 2) := by decide +kernel
theorem dX5_tempt_76 : decode cX5_tempt 76 = .ok (.ifCond .eq 51, 3) := by decide +kernel
theorem dX5_tempt_79 : decode cX5_tempt 79 = .ok (.aload_n 0, 1) := by decide +kernel
theorem dX5_tempt_80 : decode cX5_tempt 80 = .ok (.dup, 1) := by decide +kernel
theorem dX5_tempt_81 : decode cX5_tempt 81 = .ok (.getfield 20, 3) := by decide +kernel
theorem dX5_tempt_84 : decode cX5_tempt 84 = .ok (.iconst 1, 1) := by decide +kernel
theorem dX5_tempt_85 : decode cX5_tempt 85 = .ok (.iadd, 1) := by decide +kernel
theorem dX5_tempt_86 : decode cX5_tempt 86 = .ok (.putfield 20, 3) := by decide +kernel
theorem dX5_tempt_89 : decode cX5_tempt 89 = .ok (.aload_n 1, 1) := by decide +kernel
theorem dX5_tempt_90 : decode cX5_tempt 90 = .ok (.aload_n 1, 1) := by decide +kernel
theorem dX5_tempt_91 : decode cX5_tempt 91 = .ok (.getfield 97, 3) := by decide +kernel
theorem dX5_tempt_94 : decode cX5_tempt 94 = .ok (.iconst 1, 1) := by decide +kernel
theorem dX5_tempt_95 : decode cX5_tempt 95 = .ok (.iadd, 1) := by decide +kernel
theorem dX5_tempt_96 : decode cX5_tempt 96 = .ok (.sipush 9999, 3) := by decide +kernel
theorem dX5_tempt_99 : decode cX5_tempt 99 = .ok (.invokestatic 82, 3) := by decide +kernel
theorem dX5_tempt_102 : decode cX5_tempt 102 = .ok (.putfield 97, 3) := by decide +kernel
theorem dX5_tempt_105 : decode cX5_tempt 105 = .ok (.aload_n 1, 1) := by decide +kernel
theorem dX5_tempt_106 : decode cX5_tempt 106 = .ok (.aload_n 1, 1) := by decide +kernel
theorem dX5_tempt_107 : decode cX5_tempt 107 = .ok (.getfield 115, 3) := by decide +kernel
theorem dX5_tempt_110 : decode cX5_tempt 110 = .ok (.aload_n 1, 1) := by decide +kernel
theorem dX5_tempt_111 : decode cX5_tempt 111 = .ok (.getfield 91, 3) := by decide +kernel
theorem dX5_tempt_114 : decode cX5_tempt 114 = .ok (.iload_n 3, 1) := by decide +kernel
theorem dX5_tempt_115 : decode cX5_tempt 115 = .ok (.invokestatic 49, 3) := by decide +kernel
theorem dX5_tempt_118 : decode cX5_tempt 118 = .ok (.iadd, 1) := by decide +kernel
theorem dX5_tempt_119 : decode cX5_tempt 119 = .ok (.ldc 118, 2) := by decide +kernel
theorem dX5_tempt_121 : decode cX5_tempt 121 = .ok (.invokestatic 82, 3) := by decide +kernel
theorem dX5_tempt_124 : decode cX5_tempt 124 = .ok (.putfield 115, 3) := by decide +kernel
theorem dX5_tempt_127 : decode cX5_tempt 127 = .ok (.return_, 1) := by decide +kernel
theorem dX5_pay_0 : decode cX5_pay 0 = .ok (.iconst 0, 1) := by decide +kernel
theorem dX5_pay_1 : decode cX5_pay 1 = .ok (.istore 4, 2) := by decide +kernel
theorem dX5_pay_3 : decode cX5_pay 3 = .ok (.iload 4, 2) := by decide +kernel
theorem dX5_pay_5 : decode cX5_pay 5 = .ok (.bipush 8, 2) := by decide +kernel
theorem dX5_pay_7 : decode cX5_pay 7 = .ok (.if_icmp .ge 66, 3) := by decide +kernel
theorem dX5_pay_10 : decode cX5_pay 10 = .ok (.aload_n 1, 1) := by decide +kernel
theorem dX5_pay_11 : decode cX5_pay 11 = .ok (.iload 4, 2) := by decide +kernel
theorem dX5_pay_13 : decode cX5_pay 13 = .ok (.invokevirtual 61, 3) := by decide +kernel
theorem dX5_pay_16 : decode cX5_pay 16 = .ok (.ifCond .eq 51, 3) := by decide +kernel
theorem dX5_pay_19 : decode cX5_pay 19 = .ok (.aload_n 1, 1) := by decide +kernel
theorem dX5_pay_20 : decode cX5_pay 20 = .ok (.getfield 68, 3) := by decide +kernel
theorem dX5_pay_23 : decode cX5_pay 23 = .ok (.iload 4, 2) := by decide +kernel
theorem dX5_pay_25 : decode cX5_pay 25 = .ok (.invokestatic 49, 3) := by decide +kernel
theorem dX5_pay_28 : decode cX5_pay 28 = .ok (.iload_n 2, 1) := by decide +kernel
theorem dX5_pay_29 : decode cX5_pay 29 = .ok (.if_icmp .ne 38, 3) := by decide +kernel
theorem dX5_pay_32 : decode cX5_pay 32 = .ok (.aload_n 1, 1) := by decide +kernel
theorem dX5_pay_33 : decode cX5_pay 33 = .ok (.getfield 119, 3) := by decide +kernel
theorem dX5_pay_36 : decode cX5_pay 36 = .ok (.iload 4, 2) := by decide +kernel
theorem dX5_pay_38 : decode cX5_pay 38 = .ok (.aload_n 1, 1) := by decide +kernel
theorem dX5_pay_39 : decode cX5_pay 39 = .ok (.getfield 119, 3) := by decide +kernel
theorem dX5_pay_42 : decode cX5_pay 42 = .ok (.iload 4, 2) := by decide +kernel
theorem dX5_pay_44 : decode cX5_pay 44 = .ok (.invokestatic 49, 3) := by decide +kernel
theorem dX5_pay_47 : decode cX5_pay 47 = .ok (.iload_n 3, 1) := by decide +kernel
theorem dX5_pay_48 : decode cX5_pay 48 = .ok (.iadd, 1) := by decide +kernel
theorem dX5_pay_49 : decode cX5_pay 49 = .ok (.ldc 118, 2) := by decide +kernel
theorem dX5_pay_51 : decode cX5_pay 51 = .ok (.invokestatic 82, 3) := by decide +kernel
theorem dX5_pay_54 : decode cX5_pay 54 = .ok (.invokestatic 75, 3) := by decide +kernel
theorem dX5_pay_57 : decode cX5_pay 57 = .ok (.aload_n 0, 1) := by decide +kernel
theorem dX5_pay_58 : decode cX5_pay 58 = .ok (.dup, 1) := by decide +kernel
theorem dX5_pay_59 : decode cX5_pay 59 = .ok (.getfield 24, 3) := by decide +kernel
theorem dX5_pay_62 : decode cX5_pay 62 = .ok (.iload_n 3, 1) := by decide +kernel
theorem dX5_pay_63 : decode cX5_pay 63 = .ok (.iadd, 1) := by decide +kernel
theorem dX5_pay_64 : decode cX5_pay 64 = .ok (.putfield 24, 3) := by decide +kernel
theorem dX5_pay_67 : decode cX5_pay 67 = .ok (.iinc 4 1, 3) := by decide +kernel
theorem dX5_pay_70 : decode cX5_pay 70 = .ok (.goto (-67), 3) := by decide +kernel
theorem dX5_pay_73 : decode cX5_pay 73 = .ok (.return_, 1) := by decide +kernel
theorem dX6_init_0 : decode cX6_init 0 = .ok (.aload_n 0, 1) := by decide +kernel
theorem dX6_init_1 : decode cX6_init 1 = .ok (.invokespecial 3, 3) := by decide +kernel
theorem dX6_init_4 : decode cX6_init 4 = .ok (.aload_n 0, 1) := by decide +kernel
theorem dX6_init_5 : decode cX6_init 5 = .ok (.bipush 16, 2) := by decide +kernel
theorem dX6_init_7 : decode cX6_init 7 = .ok (.newarray .int, 2) := by decide +kernel
theorem dX6_init_9 : decode cX6_init 9 = .ok (.putfield 9, 3) := by decide +kernel
theorem dX6_init_12 : decode cX6_init 12 = .ok (.aload_n 0, 1) := by decide +kernel
theorem dX6_init_13 : decode cX6_init 13 = .ok (.bipush 16, 2) := by decide +kernel
theorem dX6_init_15 : decode cX6_init 15 = .ok (.newarray .int, 2) := by decide +kernel
theorem dX6_init_17 : decode cX6_init 17 = .ok (.putfield 15, 3) := by decide +kernel
theorem dX6_init_20 : decode cX6_init 20 = .ok (.aload_n 0, 1) := by decide +kernel
theorem dX6_init_21 : decode cX6_init 21 = .ok (.bipush 16, 2) := by decide +kernel
theorem dX6_init_23 : decode cX6_init 23 = .ok (.newarray .int, 2) := by decide +kernel
theorem dX6_init_25 : decode cX6_init 25 = .ok (.putfield 18, 3) := by decide +kernel
theorem dX6_init_28 : decode cX6_init 28 = .ok (.aload_n 0, 1) := by decide +kernel
theorem dX6_init_29 : decode cX6_init 29 = .ok (.bipush 8, 2) := by decide +kernel
theorem dX6_init_31 : decode cX6_init 31 = .ok (.newarray .int, 2) := by decide +kernel
theorem dX6_init_33 : decode cX6_init 33 = .ok (.putfield 21, 3) := by decide +kernel
theorem dX6_init_36 : decode cX6_init 36 = .ok (.aload_n 0, 1) := by decide +kernel
theorem dX6_init_37 : decode cX6_init 37 = .ok (.bipush 8, 2) := by decide +kernel
theorem dX6_init_39 : decode cX6_init 39 = .ok (.newarray .int, 2) := by decide +kernel
theorem dX6_init_41 : decode cX6_init 41 = .ok (.putfield 24, 3) := by decide +kernel
theorem dX6_init_44 : decode cX6_init 44 = .ok (.aload_n 0, 1) := by decide +kernel
theorem dX6_init_45 : decode cX6_init 45 = .ok (.iconst 0, 1) := by decide +kernel
theorem dX6_init_46 : decode cX6_init 46 = .ok (.putfield 27, 3) := by decide +kernel
theorem dX6_init_49 : decode cX6_init 49 = .ok (.aload_n 0, 1) := by decide +kernel
theorem dX6_init_50 : decode cX6_init 50 = .ok (.iconst 0, 1) := by decide +kernel
theorem dX6_init_51 : decode cX6_init 51 = .ok (.putfield 31, 3) := by decide +kernel
theorem dX6_init_54 : decode cX6_init 54 = .ok (.aload_n 0, 1) := by decide +kernel
theorem dX6_init_55 : decode cX6_init 55 = .ok (.iconst 0, 1) := by decide +kernel
theorem dX6_init_56 : decode cX6_init 56 = .ok (.putfield 34, 3) := by decide +kernel
theorem dX6_init_59 : decode cX6_init 59 = .ok (.aload_n 0, 1) := by decide +kernel
theorem dX6_init_60 : decode cX6_init 60 = .ok (.iconst 0, 1) := by decide +kernel
theorem dX6_init_61 : decode cX6_init 61 = .ok (.putfield 37, 3) := by decide +kernel
theorem dX6_init_64 : decode cX6_init 64 = .ok (.aload_n 0, 1) := by decide +kernel
theorem dX6_init_65 : decode cX6_init 65 = .ok (.iconst 1, 1) := by decide +kernel
theorem dX6_init_66 : decode cX6_init 66 = .ok (.putfield 40, 3) := by decide +kernel
theorem dX6_init_69 : decode cX6_init 69 = .ok (.return_, 1) := by decide +kernel
theorem dX6_copy_0 : decode cX6_copy 0 = .ok (.iconst 0, 1) := by decide +kernel
theorem dX6_copy_1 : decode cX6_copy 1 = .ok (.istore_n 2, 1) := by decide +kernel
theorem dX6_copy_2 : decode cX6_copy 2 = .ok (.iload_n 2, 1) := by decide +kernel
theorem dX6_copy_3 : decode cX6_copy 3 = .ok (.bipush 16, 2) := by decide +kernel
theorem dX6_copy_5 : decode cX6_copy 5 = .ok (.if_icmp .ge 57, 3) := by decide +kernel
theorem dX6_copy_8 : decode cX6_copy 8 = .ok (.aload_n 0, 1) := by decide +kernel
theorem dX6_copy_9 : decode cX6_copy 9 = .ok (.getfield 9, 3) := by decide +kernel
theorem dX6_copy_12 : decode cX6_copy 12 = .ok (.iload_n 2, 1) := by decide +kernel
theorem dX6_copy_13 : decode cX6_copy 13 = .ok (.aload_n 1, 1) := by decide +kernel
theorem dX6_copy_14 : decode cX6_copy 14 = .ok (.getfield 9, 3) := by decide +kernel
theorem dX6_copy_17 : decode cX6_copy 17 = .ok (.iload_n 2, 1) := by decide +kernel
theorem dX6_copy_18 : decode cX6_copy 18 = .ok (.invokestatic 43, 3) := by decide +kernel
theorem dX6_copy_21 : decode cX6_copy 21 = .ok (.invokestatic 47, 3) := by decide +kernel
theorem dX6_copy_24 : decode cX6_copy 24 = .ok (.aload_n 0, 1) := by decide +kernel
theorem dX6_copy_25 : decode cX6_copy 25 = .ok (.getfield 15, 3) := by decide +kernel
theorem dX6_copy_28 : decode cX6_copy 28 = .ok (.iload_n 2, 1) := by decide +kernel
theorem dX6_copy_29 : decode cX6_copy 29 = .ok (.aload_n 1, 1) := by decide +kernel
theorem dX6_copy_30 : decode cX6_copy 30 = .ok (.getfield 15, 3) := by decide +kernel
theorem dX6_copy_33 : decode cX6_copy 33 = .ok (.iload_n 2, 1) := by decide +kernel
theorem dX6_copy_34 : decode cX6_copy 34 = .ok (.invokestatic 43, 3) := by decide +kernel
theorem dX6_copy_37 : decode cX6_copy 37 = .ok (.invokestatic 47, 3) := by decide +kernel
theorem dX6_copy_40 : decode cX6_copy 40 = .ok (.aload_n 0, 1) := by decide +kernel
theorem dX6_copy_41 : decode cX6_copy 41 = .ok (.getfield 18, 3) := by decide +kernel
theorem dX6_copy_44 : decode cX6_copy 44 = .ok (.iload_n 2, 1) := by decide +kernel
theorem dX6_copy_45 : decode cX6_copy 45 = .ok (.aload_n 1, 1) := by decide +kernel
theorem dX6_copy_46 : decode cX6_copy 46 = .ok (.getfield 18, 3) := by decide +kernel
theorem dX6_copy_49 : decode cX6_copy 49 = .ok (.iload_n 2, 1) := by decide +kernel
theorem dX6_copy_50 : decode cX6_copy 50 = .ok (.invokestatic 43, 3) := by decide +kernel
theorem dX6_copy_53 : decode cX6_copy 53 = .ok (.invokestatic 47, 3) := by decide +kernel
theorem dX6_copy_56 : decode cX6_copy 56 = .ok (.iinc 2 1, 3) := by decide +kernel
theorem dX6_copy_59 : decode cX6_copy 59 = .ok (.goto (-57), 3) := by decide +kernel
theorem dX6_copy_62 : decode cX6_copy 62 = .ok (.iconst 0, 1) := by decide +kernel
theorem dX6_copy_63 : decode cX6_copy 63 = .ok (.istore_n 2, 1) := by decide +kernel
theorem dX6_copy_64 : decode cX6_copy 64 = .ok (.iload_n 2, 1) := by decide +kernel
theorem dX6_copy_65 : decode cX6_copy 65 = .ok (.bipush 8, 2) := by decide +kernel
theorem dX6_copy_67 : decode cX6_copy 67 = .ok (.if_icmp .ge 41, 3) := by decide +kernel
theorem dX6_copy_70 : decode cX6_copy 70 = .ok (.aload_n 0, 1) := by decide +kernel
theorem dX6_copy_71 : decode cX6_copy 71 = .ok (.getfield 21, 3) := by decide +kernel
theorem dX6_copy_74 : decode cX6_copy 74 = .ok (.iload_n 2, 1) := by decide +kernel
theorem dX6_copy_75 : decode cX6_copy 75 = .ok (.aload_n 1, 1) := by decide +kernel
theorem dX6_copy_76 : decode cX6_copy 76 = .ok (.getfield 21, 3) := by decide +kernel
theorem dX6_copy_79 : decode cX6_copy 79 = .ok (.iload_n 2, 1) := by decide +kernel
theorem dX6_copy_80 : decode cX6_copy 80 = .ok (.invokestatic 43, 3) := by decide +kernel
theorem dX6_copy_83 : decode cX6_copy 83 = .ok (.invokestatic 47, 3) := by decide +kernel
theorem dX6_copy_86 : decode cX6_copy 86 = .ok (.aload_n 0, 1) := by decide +kernel
theorem dX6_copy_87 : decode cX6_copy 87 = .ok (.getfield 24, 3) := by decide +kernel
theorem dX6_copy_90 : decode cX6_copy 90 = .ok (.iload_n 2, 1) := by decide +kernel
theorem dX6_copy_91 : decode cX6_copy 91 = .ok (.aload_n 1, 1) := by decide +kernel
theorem dX6_copy_92 : decode cX6_copy 92 = .ok (.getfield 24, 3) := by decide +kernel
theorem dX6_copy_95 : decode cX6_copy 95 = .ok (.iload_n 2, 1) := by decide +kernel
theorem dX6_copy_96 : decode cX6_copy 96 = .ok (.invokestatic 43, 3) := by decide +kernel
theorem dX6_copy_99 : decode cX6_copy 99 = .ok (.invokestatic 47, 3) := by decide +kernel
theorem dX6_copy_102 : decode cX6_copy 102 = .ok (.iinc 2 1, 3) := by decide +kernel
theorem dX6_copy_105 : decode cX6_copy 105 = .ok (.goto (-41), 3) := by decide +kernel
theorem dX6_copy_108 : decode cX6_copy 108 = .ok (.aload_n 0, 1) := by decide +kernel
theorem dX6_copy_109 : decode cX6_copy 109 = .ok (.aload_n 1, 1) := by decide +kernel
theorem dX6_copy_110 : decode cX6_copy 110 = .ok (.getfield 27, 3) := by decide +kernel
theorem dX6_copy_113 : decode cX6_copy 113 = .ok (.putfield 27, 3) := by decide +kernel
theorem dX6_copy_116 : decode cX6_copy 116 = .ok (.aload_n 0, 1) := by decide +kernel
theorem dX6_copy_117 : decode cX6_copy 117 = .ok (.aload_n 1, 1) := by decide +kernel
theorem dX6_copy_118 : decode cX6_copy 118 = .ok (.getfield 31, 3) := by decide +kernel
theorem dX6_copy_121 : decode cX6_copy 121 = .ok (.putfield 31, 3) := by decide +kernel
theorem dX6_copy_124 : decode cX6_copy 124 = .ok (.aload_n 0, 1) := by decide +kernel
theorem dX6_copy_125 : decode cX6_copy 125 = .ok (.aload_n 1, 1) := by decide +kernel
theorem dX6_copy_126 : decode cX6_copy 126 = .ok (.getfield 34, 3) := by decide +kernel
theorem dX6_copy_129 : decode cX6_copy 129 = .ok (.putfield 34, 3) := by decide +kernel
theorem dX6_copy_132 : decode cX6_copy 132 = .ok (.aload_n 0, 1) := by decide +kernel
theorem dX6_copy_133 : decode cX6_copy 133 = .ok (.aload_n 1, 1) := by decide +kernel
theorem dX6_copy_134 : decode cX6_copy 134 = .ok (.getfield 37, 3) := by decide +kernel
theorem dX6_copy_137 : decode cX6_copy 137 = .ok (.putfield 37, 3) := by decide +kernel
theorem dX6_copy_140 : decode cX6_copy 140 = .ok (.aload_n 0, 1) := by decide +kernel
theorem dX6_copy_141 : decode cX6_copy 141 = .ok (.aload_n 1, 1) := by decide +kernel
theorem dX6_copy_142 : decode cX6_copy 142 = .ok (.getfield 40, 3) := by decide +kernel
theorem dX6_copy_145 : decode cX6_copy 145 = .ok (.putfield 40, 3) := by decide +kernel
theorem dX6_copy_148 : decode cX6_copy 148 = .ok (.return_, 1) := by decide +kernel
theorem dX6_isTold_0 : decode cX6_isTold 0 = .ok (.iload_n 1, 1) := by decide +kernel
theorem dX6_isTold_1 : decode cX6_isTold 1 = .ok (.iconst 0, 1) := by decide +kernel
theorem dX6_isTold_2 : decode cX6_isTold 2 = .ok (.bipush 7, 2) := by decide +kernel
theorem dX6_isTold_4 : decode cX6_isTold 4 = .ok (.invokestatic 51, 3) := by decide +kernel
theorem dX6_isTold_7 : decode cX6_isTold 7 = .ok (.ifCond .eq 18, 3) := by decide +kernel
theorem dX6_isTold_10 : decode cX6_isTold 10 = .ok (.aload_n 0, 1) := by decide +kernel
theorem dX6_isTold_11 : decode cX6_isTold 11 = .ok (.getfield 27, 3) := by decide +kernel
theorem dX6_isTold_14 : decode cX6_isTold 14 = .ok (.iload_n 1, 1) := by decide +kernel
theorem dX6_isTold_15 : decode cX6_isTold 15 = .ok (.invokestatic 55, 3) := by decide +kernel
theorem dX6_isTold_18 : decode cX6_isTold 18 = .ok (.ifCond .eq 7, 3) := by decide +kernel
theorem dX6_isTold_21 : decode cX6_isTold 21 = .ok (.iconst 1, 1) := by decide +kernel
theorem dX6_isTold_22 : decode cX6_isTold 22 = .ok (.goto 4, 3) := by decide +kernel
theorem dX6_isTold_25 : decode cX6_isTold 25 = .ok (.iconst 0, 1) := by decide +kernel
theorem dX6_isTold_26 : decode cX6_isTold 26 = .ok (.ireturn, 1) := by decide +kernel
theorem dX6_standAt_0 : decode cX6_standAt 0 = .ok (.iconst 0, 1) := by decide +kernel
theorem dX6_standAt_1 : decode cX6_standAt 1 = .ok (.istore_n 2, 1) := by decide +kernel
theorem dX6_standAt_2 : decode cX6_standAt 2 = .ok (.iconst 0, 1) := by decide +kernel
theorem dX6_standAt_3 : decode cX6_standAt 3 = .ok (.istore_n 3, 1) := by decide +kernel
theorem dX6_standAt_4 : decode cX6_standAt 4 = .ok (.iload_n 3, 1) := by decide +kernel
theorem dX6_standAt_5 : decode cX6_standAt 5 = .ok (.bipush 8, 2) := by decide +kernel
theorem dX6_standAt_7 : decode cX6_standAt 7 = .ok (.if_icmp .ge 35, 3) := by decide +kernel
theorem dX6_standAt_10 : decode cX6_standAt 10 = .ok (.aload_n 0, 1) := by decide +kernel
theorem dX6_standAt_11 : decode cX6_standAt 11 = .ok (.iload_n 3, 1) := by decide +kernel
theorem dX6_standAt_12 : decode cX6_standAt 12 = .ok (.invokevirtual 59, 3) := by decide +kernel
theorem dX6_standAt_15 : decode cX6_standAt 15 = .ok (.ifCond .eq 21, 3) := by decide +kernel
theorem dX6_standAt_18 : decode cX6_standAt 18 = .ok (.aload_n 0, 1) := by decide +kernel
theorem dX6_standAt_19 : decode cX6_standAt 19 = .ok (.getfield 21, 3) := by decide +kernel
theorem dX6_standAt_22 : decode cX6_standAt 22 = .ok (.iload_n 3, 1) := by decide +kernel
theorem dX6_standAt_23 : decode cX6_standAt 23 = .ok (.invokestatic 43, 3) := by decide +kernel
theorem dX6_standAt_26 : decode cX6_standAt 26 = .ok (.iload_n 1, 1) := by decide +kernel
theorem dX6_standAt_27 : decode cX6_standAt 27 = .ok (.if_icmp .ne 9, 3) := by decide +kernel
theorem dX6_standAt_30 : decode cX6_standAt 30 = .ok (.iload_n 2, 1) := by decide +kernel
theorem dX6_standAt_31 : decode cX6_standAt 31 = .ok (.iconst 1, 1) := by decide +kernel
theorem dX6_standAt_32 : decode cX6_standAt 32 = .ok (.iload_n 3, 1) := by decide +kernel
theorem dX6_standAt_33 : decode cX6_standAt 33 = .ok (.ishl, 1) := by decide +kernel
theorem dX6_standAt_34 : decode cX6_standAt 34 = .ok (.ior, 1) := by decide +kernel
theorem dX6_standAt_35 : decode cX6_standAt 35 = .ok (.istore_n 2, 1) := by decide +kernel
theorem dX6_standAt_36 : decode cX6_standAt 36 = .ok (.iinc 3 1, 3) := by decide +kernel
theorem dX6_standAt_39 : decode cX6_standAt 39 = .ok (.goto (-35), 3) := by decide +kernel
theorem dX6_standAt_42 : decode cX6_standAt 42 = .ok (.iload_n 2, 1) := by decide +kernel
theorem dX6_standAt_43 : decode cX6_standAt 43 = .ok (.ireturn, 1) := by decide +kernel
theorem dX6_stoodAt_0 : decode cX6_stoodAt 0 = .ok (.iconst 0, 1) := by decide +kernel
theorem dX6_stoodAt_1 : decode cX6_stoodAt 1 = .ok (.istore_n 1, 1) := by decide +kernel
theorem dX6_stoodAt_2 : decode cX6_stoodAt 2 = .ok (.iconst 0, 1) := by decide +kernel
theorem dX6_stoodAt_3 : decode cX6_stoodAt 3 = .ok (.istore_n 2, 1) := by decide +kernel
theorem dX6_stoodAt_4 : decode cX6_stoodAt 4 = .ok (.iload_n 2, 1) := by decide +kernel
theorem dX6_stoodAt_5 : decode cX6_stoodAt 5 = .ok (.bipush 8, 2) := by decide +kernel
theorem dX6_stoodAt_7 : decode cX6_stoodAt 7 = .ok (.if_icmp .ge 30, 3) := by decide +kernel
theorem dX6_stoodAt_10 : decode cX6_stoodAt 10 = .ok (.aload_n 0, 1) := by decide +kernel
theorem dX6_stoodAt_11 : decode cX6_stoodAt 11 = .ok (.iload_n 2, 1) := by decide +kernel
theorem dX6_stoodAt_12 : decode cX6_stoodAt 12 = .ok (.invokevirtual 59, 3) := by decide +kernel
theorem dX6_stoodAt_15 : decode cX6_stoodAt 15 = .ok (.ifCond .eq 16, 3) := by decide +kernel
theorem dX6_stoodAt_18 : decode cX6_stoodAt 18 = .ok (.iload_n 1, 1) := by decide +kernel
theorem dX6_stoodAt_19 : decode cX6_stoodAt 19 = .ok (.iconst 1, 1) := by decide +kernel
theorem dX6_stoodAt_20 : decode cX6_stoodAt 20 = .ok (.aload_n 0, 1) := by decide +kernel
theorem dX6_stoodAt_21 : decode cX6_stoodAt 21 = .ok (.getfield 21, 3) := by decide +kernel
theorem dX6_stoodAt_24 : decode cX6_stoodAt 24 = .ok (.iload_n 2, 1) := by decide +kernel
theorem dX6_stoodAt_25 : decode cX6_stoodAt 25 = .ok (.invokestatic 43, 3) := by decide +kernel
theorem dX6_stoodAt_28 : decode cX6_stoodAt 28 = .ok (.ishl, 1) := by decide +kernel
theorem dX6_stoodAt_29 : decode cX6_stoodAt 29 = .ok (.ior, 1) := by decide +kernel
theorem dX6_stoodAt_30 : decode cX6_stoodAt 30 = .ok (.istore_n 1, 1) := by decide +kernel
theorem dX6_stoodAt_31 : decode cX6_stoodAt 31 = .ok (.iinc 2 1, 3) := by decide +kernel
theorem dX6_stoodAt_34 : decode cX6_stoodAt 34 = .ok (.goto (-30), 3) := by decide +kernel
theorem dX6_stoodAt_37 : decode cX6_stoodAt 37 = .ok (.iload_n 1, 1) := by decide +kernel
theorem dX6_stoodAt_38 : decode cX6_stoodAt 38 = .ok (.ireturn, 1) := by decide +kernel
theorem dX6_wages_0 : decode cX6_wages 0 = .ok (.aload_n 0, 1) := by decide +kernel
theorem dX6_wages_1 : decode cX6_wages 1 = .ok (.getfield 24, 3) := by decide +kernel
theorem dX6_wages_4 : decode cX6_wages 4 = .ok (.aload_n 0, 1) := by decide +kernel
theorem dX6_wages_5 : decode cX6_wages 5 = .ok (.getfield 27, 3) := by decide +kernel
theorem dX6_wages_8 : decode cX6_wages 8 = .ok (.invokestatic 63, 3) := by decide +kernel
theorem dX6_wages_11 : decode cX6_wages 11 = .ok (.ireturn, 1) := by decide +kernel
theorem dX6_draw_0 : decode cX6_draw 0 = .ok (.aload_n 0, 1) := by decide +kernel
theorem dX6_draw_1 : decode cX6_draw 1 = .ok (.sipush 25173, 3) := by decide +kernel
theorem dX6_draw_4 : decode cX6_draw 4 = .ok (.aload_n 0, 1) := by decide +kernel
theorem dX6_draw_5 : decode cX6_draw 5 = .ok (.getfield 40, 3) := by decide +kernel
theorem dX6_draw_8 : decode cX6_draw 8 = .ok (.imul, 1) := by decide +kernel
theorem dX6_draw_9 : decode cX6_draw 9 = .ok (.sipush 13849, 3) := by decide +kernel
theorem dX6_draw_12 : decode cX6_draw 12 = .ok (.iadd, 1) := by decide +kernel
theorem dX6_draw_13 : decode cX6_draw 13 = .ok (.ldc 66, 2) := by decide +kernel
theorem dX6_draw_15 : decode cX6_draw 15 = .ok (.iand, 1) := by decide +kernel
theorem dX6_draw_16 : decode cX6_draw 16 = .ok (.putfield 40, 3) := by decide +kernel
theorem dX6_draw_19 : decode cX6_draw 19 = .ok (.aload_n 0, 1) := by decide +kernel
theorem dX6_draw_20 : decode cX6_draw 20 = .ok (.getfield 40, 3) := by decide +kernel
theorem dX6_draw_23 : decode cX6_draw 23 = .ok (.bipush 10, 2) := by decide +kernel
theorem dX6_draw_25 : decode cX6_draw 25 = .ok (.irem, 1) := by decide +kernel
theorem dX6_draw_26 : decode cX6_draw 26 = .ok (.ireturn, 1) := by decide +kernel
theorem dX7_init_0 : decode cX7_init 0 = .ok (.aload_n 0, 1) := by decide +kernel
theorem dX7_init_1 : decode cX7_init 1 = .ok (.invokespecial 3, 3) := by decide +kernel
theorem dX7_init_4 : decode cX7_init 4 = .ok (.aload_n 0, 1) := by decide +kernel
theorem dX7_init_5 : decode cX7_init 5 = .ok (.sipush 260, 3) := by decide +kernel
theorem dX7_init_8 : decode cX7_init 8 = .ok (.newarray .int, 2) := by decide +kernel
theorem dX7_init_10 : decode cX7_init 10 = .ok (.putfield 11, 3) := by decide +kernel
theorem dX7_init_13 : decode cX7_init 13 = .ok (.aload_n 0, 1) := by decide +kernel
theorem dX7_init_14 : decode cX7_init 14 = .ok (.iconst 0, 1) := by decide +kernel
theorem dX7_init_15 : decode cX7_init 15 = .ok (.putfield 15, 3) := by decide +kernel
theorem dX7_init_18 : decode cX7_init 18 = .ok (.aload_n 0, 1) := by decide +kernel
theorem dX7_init_19 : decode cX7_init 19 = .ok (.iconst 0, 1) := by decide +kernel
theorem dX7_init_20 : decode cX7_init 20 = .ok (.putfield 19, 3) := by decide +kernel
theorem dX7_init_23 : decode cX7_init 23 = .ok (.aload_n 0, 1) := by decide +kernel
theorem dX7_init_24 : decode cX7_init 24 = .ok (.iconst 0, 1) := by decide +kernel
theorem dX7_init_25 : decode cX7_init 25 = .ok (.putfield 22, 3) := by decide +kernel
theorem dX7_init_28 : decode cX7_init 28 = .ok (.aload_n 0, 1) := by decide +kernel
theorem dX7_init_29 : decode cX7_init 29 = .ok (.iconst 0, 1) := by decide +kernel
theorem dX7_init_30 : decode cX7_init 30 = .ok (.putfield 25, 3) := by decide +kernel
theorem dX7_init_33 : decode cX7_init 33 = .ok (.aload_n 0, 1) := by decide +kernel
theorem dX7_init_34 : decode cX7_init 34 = .ok (.iconst 0, 1) := by decide +kernel
theorem dX7_init_35 : decode cX7_init 35 = .ok (.putfield 28, 3) := by decide +kernel
theorem dX7_init_38 : decode cX7_init 38 = .ok (.return_, 1) := by decide +kernel
theorem dX7_append_0 : decode cX7_append 0 = .ok (.bipush 24, 2) := by decide +kernel
theorem dX7_append_2 : decode cX7_append 2 = .ok (.istore_n 2, 1) := by decide +kernel
theorem dX7_append_3 : decode cX7_append 3 = .ok (.iload_n 2, 1) := by decide +kernel
theorem dX7_append_4 : decode cX7_append 4 = .ok (.ifCond .lt 37, 3) := by decide +kernel
theorem dX7_append_7 : decode cX7_append 7 = .ok (.aload_n 0, 1) := by decide +kernel
theorem dX7_append_8 : decode cX7_append 8 = .ok (.getfield 11, 3) := by decide +kernel
theorem dX7_append_11 : decode cX7_append 11 = .ok (.aload_n 0, 1) := by decide +kernel
theorem dX7_append_12 : decode cX7_append 12 = .ok (.getfield 15, 3) := by decide +kernel
theorem dX7_append_15 : decode cX7_append 15 = .ok (.iload_n 1, 1) := by decide +kernel
theorem dX7_append_16 : decode cX7_append 16 = .ok (.iload_n 2, 1) := by decide +kernel
theorem dX7_append_17 : decode cX7_append 17 = .ok (.iushr, 1) := by decide +kernel
theorem dX7_append_18 : decode cX7_append 18 = .ok (.sipush 255, 3) := by decide +kernel
theorem dX7_append_21 : decode cX7_append 21 = .ok (.iand, 1) := by decide +kernel
theorem dX7_append_22 : decode cX7_append 22 = .ok (.invokestatic 31, 3) := by decide +kernel
theorem dX7_append_25 : decode cX7_append 25 = .ok (.aload_n 0, 1) := by decide +kernel
theorem dX7_append_26 : decode cX7_append 26 = .ok (.dup, 1) := by decide +kernel
theorem dX7_append_27 : decode cX7_append 27 = .ok (.getfield 15, 3) := by decide +kernel
theorem dX7_append_30 : decode cX7_append 30 = .ok (.iconst 1, 1) := by decide +kernel
theorem dX7_append_31 : decode cX7_append 31 = .ok (.iadd, 1) := by decide +kernel
theorem dX7_append_32 : decode cX7_append 32 = .ok (.putfield 15, 3) := by decide +kernel
theorem dX7_append_35 : decode cX7_append 35 = .ok (.iinc 2 (-8), 3) := by decide +kernel
theorem dX7_append_38 : decode cX7_append 38 = .ok (.goto (-35), 3) := by decide +kernel
theorem dX7_append_41 : decode cX7_append 41 = .ok (.return_, 1) := by decide +kernel
theorem dX7_holds_0 : decode cX7_holds 0 = .ok (.iload_n 1, 1) := by decide +kernel
theorem dX7_holds_1 : decode cX7_holds 1 = .ok (.aload_n 0, 1) := by decide +kernel
theorem dX7_holds_2 : decode cX7_holds 2 = .ok (.getfield 15, 3) := by decide +kernel
theorem dX7_holds_5 : decode cX7_holds 5 = .ok (.if_icmp .gt 7, 3) := by decide +kernel
theorem dX7_holds_8 : decode cX7_holds 8 = .ok (.iconst 1, 1) := by decide +kernel
theorem dX7_holds_9 : decode cX7_holds 9 = .ok (.goto 4, 3) := by decide +kernel
theorem dX7_holds_12 : decode cX7_holds 12 = .ok (.iconst 0, 1) := by decide +kernel
theorem dX7_holds_13 : decode cX7_holds 13 = .ok (.ireturn, 1) := by decide +kernel
theorem dX7_open_0 : decode cX7_open 0 = .ok (.aload_n 0, 1) := by decide +kernel
theorem dX7_open_1 : decode cX7_open 1 = .ok (.iconst 0, 1) := by decide +kernel
theorem dX7_open_2 : decode cX7_open 2 = .ok (.putfield 15, 3) := by decide +kernel
theorem dX7_open_5 : decode cX7_open 5 = .ok (.aload_n 0, 1) := by decide +kernel
theorem dX7_open_6 : decode cX7_open 6 = .ok (.iload_n 1, 1) := by decide +kernel
theorem dX7_open_7 : decode cX7_open 7 = .ok (.putfield 19, 3) := by decide +kernel
theorem dX7_open_10 : decode cX7_open 10 = .ok (.aload_n 0, 1) := by decide +kernel
theorem dX7_open_11 : decode cX7_open 11 = .ok (.iconst 0, 1) := by decide +kernel
theorem dX7_open_12 : decode cX7_open 12 = .ok (.putfield 22, 3) := by decide +kernel
theorem dX7_open_15 : decode cX7_open 15 = .ok (.aload_n 0, 1) := by decide +kernel
theorem dX7_open_16 : decode cX7_open 16 = .ok (.iconst 0, 1) := by decide +kernel
theorem dX7_open_17 : decode cX7_open 17 = .ok (.putfield 25, 3) := by decide +kernel
theorem dX7_open_20 : decode cX7_open 20 = .ok (.aload_n 0, 1) := by decide +kernel
theorem dX7_open_21 : decode cX7_open 21 = .ok (.iconst 0, 1) := by decide +kernel
theorem dX7_open_22 : decode cX7_open 22 = .ok (.putfield 28, 3) := by decide +kernel
theorem dX7_open_25 : decode cX7_open 25 = .ok (.return_, 1) := by decide +kernel
theorem dX7_byteAt_0 : decode cX7_byteAt 0 = .ok (.iload_n 1, 1) := by decide +kernel
theorem dX7_byteAt_1 : decode cX7_byteAt 1 = .ok (.aload_n 0, 1) := by decide +kernel
theorem dX7_byteAt_2 : decode cX7_byteAt 2 = .ok (.getfield 19, 3) := by decide +kernel
theorem dX7_byteAt_5 : decode cX7_byteAt 5 = .ok (.if_icmp .ge 14, 3) := by decide +kernel
theorem dX7_byteAt_8 : decode cX7_byteAt 8 = .ok (.aload_n 0, 1) := by decide +kernel
theorem dX7_byteAt_9 : decode cX7_byteAt 9 = .ok (.getfield 11, 3) := by decide +kernel
theorem dX7_byteAt_12 : decode cX7_byteAt 12 = .ok (.iload_n 1, 1) := by decide +kernel
theorem dX7_byteAt_13 : decode cX7_byteAt 13 = .ok (.invokestatic 35, 3) := by decide +kernel
theorem dX7_byteAt_16 : decode cX7_byteAt 16 = .ok (.goto 4, 3) := by decide +kernel
theorem dX7_byteAt_19 : decode cX7_byteAt 19 = .ok (.iconst 0, 1) := by decide +kernel
theorem dX7_byteAt_20 : decode cX7_byteAt 20 = .ok (.ireturn, 1) := by decide +kernel
theorem dX7_look_0 : decode cX7_look 0 = .ok (.aload_n 0, 1) := by decide +kernel
theorem dX7_look_1 : decode cX7_look 1 = .ok (.getfield 22, 3) := by decide +kernel
theorem dX7_look_4 : decode cX7_look 4 = .ok (.aload_n 0, 1) := by decide +kernel
theorem dX7_look_5 : decode cX7_look 5 = .ok (.getfield 19, 3) := by decide +kernel
theorem dX7_look_8 : decode cX7_look 8 = .ok (.if_icmp .ge 17, 3) := by decide +kernel
theorem dX7_look_11 : decode cX7_look 11 = .ok (.aload_n 0, 1) := by decide +kernel
theorem dX7_look_12 : decode cX7_look 12 = .ok (.getfield 11, 3) := by decide +kernel
theorem dX7_look_15 : decode cX7_look 15 = .ok (.aload_n 0, 1) := by decide +kernel
theorem dX7_look_16 : decode cX7_look 16 = .ok (.getfield 22, 3) := by decide +kernel
theorem dX7_look_19 : decode cX7_look 19 = .ok (.invokestatic 35, 3) := by decide +kernel
theorem dX7_look_22 : decode cX7_look 22 = .ok (.goto 4, 3) := by decide +kernel
theorem dX7_look_25 : decode cX7_look 25 = .ok (.iconst (-1), 1) := by decide +kernel
theorem dX7_look_26 : decode cX7_look 26 = .ok (.ireturn, 1) := by decide +kernel
theorem dX7_reader_0 : decode cX7_reader 0 = .ok (.aload_n 0, 1) := by decide +kernel
theorem dX7_reader_1 : decode cX7_reader 1 = .ok (.getfield 22, 3) := by decide +kernel
theorem dX7_reader_4 : decode cX7_reader 4 = .ok (.ireturn, 1) := by decide +kernel
theorem dX7_step_0 : decode cX7_step 0 = .ok (.aload_n 0, 1) := by decide +kernel
theorem dX7_step_1 : decode cX7_step 1 = .ok (.dup, 1) := by decide +kernel
theorem dX7_step_2 : decode cX7_step 2 = .ok (.getfield 22, 3) := by decide +kernel
theorem dX7_step_5 : decode cX7_step 5 = .ok (.iconst 1, 1) := by decide +kernel
theorem dX7_step_6 : decode cX7_step 6 = .ok (.iadd, 1) := by decide +kernel
theorem dX7_step_7 : decode cX7_step 7 = .ok (.putfield 22, 3) := by decide +kernel
theorem dX7_step_10 : decode cX7_step 10 = .ok (.return_, 1) := by decide +kernel
theorem dX7_take_0 : decode cX7_take 0 = .ok (.aload_n 0, 1) := by decide +kernel
theorem dX7_take_1 : decode cX7_take 1 = .ok (.invokevirtual 39, 3) := by decide +kernel
theorem dX7_take_4 : decode cX7_take 4 = .ok (.ifCond .eq 11, 3) := by decide +kernel
theorem dX7_take_7 : decode cX7_take 7 = .ok (.aload_n 0, 1) := by decide +kernel
theorem dX7_take_8 : decode cX7_take 8 = .ok (.invokevirtual 43, 3) := by decide +kernel
theorem dX7_take_11 : decode cX7_take 11 = .ok (.iload_n 1, 1) := by decide +kernel
theorem dX7_take_12 : decode cX7_take 12 = .ok (.if_icmp .eq 10, 3) := by decide +kernel
theorem dX7_take_15 : decode cX7_take 15 = .ok (.aload_n 0, 1) := by decide +kernel
theorem dX7_take_16 : decode cX7_take 16 = .ok (.iconst 1, 1) := by decide +kernel
theorem dX7_take_17 : decode cX7_take 17 = .ok (.invokevirtual 47, 3) := by decide +kernel
theorem dX7_take_20 : decode cX7_take 20 = .ok (.iconst 0, 1) := by decide +kernel
theorem dX7_take_21 : decode cX7_take 21 = .ok (.ireturn, 1) := by decide +kernel
theorem dX7_take_22 : decode cX7_take 22 = .ok (.aload_n 0, 1) := by decide +kernel
theorem dX7_take_23 : decode cX7_take 23 = .ok (.invokevirtual 51, 3) := by decide +kernel
theorem dX7_take_26 : decode cX7_take 26 = .ok (.iconst 1, 1) := by decide +kernel
theorem dX7_take_27 : decode cX7_take 27 = .ok (.ireturn, 1) := by decide +kernel
theorem dX7_number_0 : decode cX7_number 0 = .ok (.iconst 0, 1) := by decide +kernel
theorem dX7_number_1 : decode cX7_number 1 = .ok (.istore_n 2, 1) := by decide +kernel
theorem dX7_number_2 : decode cX7_number 2 = .ok (.iconst 0, 1) := by decide +kernel
theorem dX7_number_3 : decode cX7_number 3 = .ok (.istore_n 3, 1) := by decide +kernel
theorem dX7_number_4 : decode cX7_number 4 = .ok (.iload_n 3, 1) := by decide +kernel
theorem dX7_number_5 : decode cX7_number 5 = .ok (.iload_n 1, 1) := by decide +kernel
theorem dX7_number_6 : decode cX7_number 6 = .ok (.if_icmp .gt 48, 3) := by decide +kernel
theorem dX7_number_9 : decode cX7_number 9 = .ok (.aload_n 0, 1) := by decide +kernel
theorem dX7_number_10 : decode cX7_number 10 = .ok (.invokevirtual 43, 3) := by decide +kernel
theorem dX7_number_13 : decode cX7_number 13 = .ok (.invokestatic 54, 3) := by decide +kernel
theorem dX7_number_16 : decode cX7_number 16 = .ok (.ifCond .eq 38, 3) := by decide +kernel
theorem dX7_number_19 : decode cX7_number 19 = .ok (.iload_n 3, 1) := by decide +kernel
theorem dX7_number_20 : decode cX7_number 20 = .ok (.iload_n 1, 1) := by decide +kernel
theorem dX7_number_21 : decode cX7_number 21 = .ok (.if_icmp .ne 10, 3) := by decide +kernel
theorem dX7_number_24 : decode cX7_number 24 = .ok (.aload_n 0, 1) := by decide +kernel
theorem dX7_number_25 : decode cX7_number 25 = .ok (.iconst 2, 1) := by decide +kernel
theorem dX7_number_26 : decode cX7_number 26 = .ok (.invokevirtual 47, 3) := by decide +kernel
theorem dX7_number_29 : decode cX7_number 29 = .ok (.iconst 0, 1) := by decide +kernel
theorem dX7_number_30 : decode cX7_number 30 = .ok (.ireturn, 1) := by decide +kernel
theorem dX7_number_31 : decode cX7_number 31 = .ok (.iload_n 2, 1) := by decide +kernel
theorem dX7_number_32 : decode cX7_number 32 = .ok (.bipush 10, 2) := by decide +kernel
theorem dX7_number_34 : decode cX7_number 34 = .ok (.imul, 1) := by decide +kernel
theorem dX7_number_35 : decode cX7_number 35 = .ok (.aload_n 0, 1) := by decide +kernel
theorem dX7_number_36 : decode cX7_number 36 = .ok (.invokevirtual 43, 3) := by decide +kernel
theorem dX7_number_39 : decode cX7_number 39 = .ok (.iadd, 1) := by decide +kernel
theorem dX7_number_40 : decode cX7_number 40 = .ok (.bipush 48, 2) := by decide +kernel
theorem dX7_number_42 : decode cX7_number 42 = .ok (.isub, 1) := by decide +kernel
theorem dX7_number_43 : decode cX7_number 43 = .ok (.istore_n 2, 1) := by decide +kernel
theorem dX7_number_44 : decode cX7_number 44 = .ok (.iinc 3 1, 3) := by decide +kernel
theorem dX7_number_47 : decode cX7_number 47 = .ok (.aload_n 0, 1) := by decide +kernel
theorem dX7_number_48 : decode cX7_number 48 = .ok (.invokevirtual 51, 3) := by decide +kernel
theorem dX7_number_51 : decode cX7_number 51 = .ok (.goto (-47), 3) := by decide +kernel
theorem dX7_number_54 : decode cX7_number 54 = .ok (.iload_n 3, 1) := by decide +kernel
theorem dX7_number_55 : decode cX7_number 55 = .ok (.ifCond .ne 8, 3) := by decide +kernel
theorem dX7_number_58 : decode cX7_number 58 = .ok (.aload_n 0, 1) := by decide +kernel
theorem dX7_number_59 : decode cX7_number 59 = .ok (.iconst 1, 1) := by decide +kernel
theorem dX7_number_60 : decode cX7_number 60 = .ok (.invokevirtual 47, 3) := by decide +kernel
theorem dX7_number_63 : decode cX7_number 63 = .ok (.iload_n 2, 1) := by decide +kernel
theorem dX7_number_64 : decode cX7_number 64 = .ok (.ireturn, 1) := by decide +kernel
theorem dX7_goesOn_0 : decode cX7_goesOn 0 = .ok (.aload_n 0, 1) := by decide +kernel
theorem dX7_goesOn_1 : decode cX7_goesOn 1 = .ok (.invokevirtual 43, 3) := by decide +kernel
theorem dX7_goesOn_4 : decode cX7_goesOn 4 = .ok (.iconst (-1), 1) := by decide +kernel
theorem dX7_goesOn_5 : decode cX7_goesOn 5 = .ok (.if_icmp .eq 16, 3) := by decide +kernel
theorem dX7_goesOn_8 : decode cX7_goesOn 8 = .ok (.aload_n 0, 1) := by decide +kernel
theorem dX7_goesOn_9 : decode cX7_goesOn 9 = .ok (.bipush 59, 2) := by decide +kernel
theorem dX7_goesOn_11 : decode cX7_goesOn 11 = .ok (.invokevirtual 58, 3) := by decide +kernel
theorem dX7_goesOn_14 : decode cX7_goesOn 14 = .ok (.ifCond .eq 7, 3) := by decide +kernel
theorem dX7_goesOn_17 : decode cX7_goesOn 17 = .ok (.iconst 1, 1) := by decide +kernel
theorem dX7_goesOn_18 : decode cX7_goesOn 18 = .ok (.goto 4, 3) := by decide +kernel
theorem dX7_goesOn_21 : decode cX7_goesOn 21 = .ok (.iconst 0, 1) := by decide +kernel
theorem dX7_goesOn_22 : decode cX7_goesOn 22 = .ok (.ireturn, 1) := by decide +kernel
theorem dX7_isFine_0 : decode cX7_isFine 0 = .ok (.aload_n 0, 1) := by decide +kernel
theorem dX7_isFine_1 : decode cX7_isFine 1 = .ok (.getfield 25, 3) := by decide +kernel
theorem dX7_isFine_4 : decode cX7_isFine 4 = .ok (.ifCond .ne 7, 3) := by decide +kernel
theorem dX7_isFine_7 : decode cX7_isFine 7 = .ok (.iconst 1, 1) := by decide +kernel
theorem dX7_isFine_8 : decode cX7_isFine 8 = .ok (.goto 4, 3) := by decide +kernel
theorem dX7_isFine_11 : decode cX7_isFine 11 = .ok (.iconst 0, 1) := by decide +kernel
theorem dX7_isFine_12 : decode cX7_isFine 12 = .ok (.ireturn, 1) := by decide +kernel
theorem dX7_fail_0 : decode cX7_fail 0 = .ok (.aload_n 0, 1) := by decide +kernel
theorem dX7_fail_1 : decode cX7_fail 1 = .ok (.iload_n 1, 1) := by decide +kernel
theorem dX7_fail_2 : decode cX7_fail 2 = .ok (.aload_n 0, 1) := by decide +kernel
theorem dX7_fail_3 : decode cX7_fail 3 = .ok (.getfield 22, 3) := by decide +kernel
theorem dX7_fail_6 : decode cX7_fail 6 = .ok (.invokevirtual 61, 3) := by decide +kernel
theorem dX7_fail_9 : decode cX7_fail 9 = .ok (.return_, 1) := by decide +kernel
theorem dX7_failAt_0 : decode cX7_failAt 0 = .ok (.aload_n 0, 1) := by decide +kernel
theorem dX7_failAt_1 : decode cX7_failAt 1 = .ok (.getfield 25, 3) := by decide +kernel
theorem dX7_failAt_4 : decode cX7_failAt 4 = .ok (.ifCond .ne 13, 3) := by decide +kernel
theorem dX7_failAt_7 : decode cX7_failAt 7 = .ok (.aload_n 0, 1) := by decide +kernel
theorem dX7_failAt_8 : decode cX7_failAt 8 = .ok (.iload_n 1, 1) := by decide +kernel
theorem dX7_failAt_9 : decode cX7_failAt 9 = .ok (.putfield 25, 3) := by decide +kernel
theorem dX7_failAt_12 : decode cX7_failAt 12 = .ok (.aload_n 0, 1) := by decide +kernel
theorem dX7_failAt_13 : decode cX7_failAt 13 = .ok (.iload_n 2, 1) := by decide +kernel
theorem dX7_failAt_14 : decode cX7_failAt 14 = .ok (.putfield 28, 3) := by decide +kernel
theorem dX7_failAt_17 : decode cX7_failAt 17 = .ok (.return_, 1) := by decide +kernel
theorem dX7_answer_0 : decode cX7_answer 0 = .ok (.aload_n 0, 1) := by decide +kernel
theorem dX7_answer_1 : decode cX7_answer 1 = .ok (.getfield 25, 3) := by decide +kernel
theorem dX7_answer_4 : decode cX7_answer 4 = .ok (.ifCond .ne 7, 3) := by decide +kernel
theorem dX7_answer_7 : decode cX7_answer 7 = .ok (.iload_n 1, 1) := by decide +kernel
theorem dX7_answer_8 : decode cX7_answer 8 = .ok (.goto 16, 3) := by decide +kernel
theorem dX7_answer_11 : decode cX7_answer 11 = .ok (.sipush (-1000), 3) := by decide +kernel
theorem dX7_answer_14 : decode cX7_answer 14 = .ok (.aload_n 0, 1) := by decide +kernel
theorem dX7_answer_15 : decode cX7_answer 15 = .ok (.getfield 25, 3) := by decide +kernel
theorem dX7_answer_18 : decode cX7_answer 18 = .ok (.imul, 1) := by decide +kernel
theorem dX7_answer_19 : decode cX7_answer 19 = .ok (.aload_n 0, 1) := by decide +kernel
theorem dX7_answer_20 : decode cX7_answer 20 = .ok (.getfield 28, 3) := by decide +kernel
theorem dX7_answer_23 : decode cX7_answer 23 = .ok (.isub, 1) := by decide +kernel
theorem dX7_answer_24 : decode cX7_answer 24 = .ok (.ireturn, 1) := by decide +kernel
theorem dX7_isDigit_0 : decode cX7_isDigit 0 = .ok (.iload_n 0, 1) := by decide +kernel
theorem dX7_isDigit_1 : decode cX7_isDigit 1 = .ok (.bipush 48, 2) := by decide +kernel
theorem dX7_isDigit_3 : decode cX7_isDigit 3 = .ok (.bipush 57, 2) := by decide +kernel
theorem dX7_isDigit_5 : decode cX7_isDigit 5 = .ok (.invokestatic 65, 3) := by decide +kernel
theorem dX7_isDigit_8 : decode cX7_isDigit 8 = .ok (.ireturn, 1) := by decide +kernel
theorem dX7_placeOf_0 : decode cX7_placeOf 0 = .ok (.iload_n 0, 1) := by decide +kernel
theorem dX7_placeOf_1 : decode cX7_placeOf 1 = .ok (.bipush 97, 2) := by decide +kernel
theorem dX7_placeOf_3 : decode cX7_placeOf 3 = .ok (.bipush 112, 2) := by decide +kernel
theorem dX7_placeOf_5 : decode cX7_placeOf 5 = .ok (.invokestatic 65, 3) := by decide +kernel
theorem dX7_placeOf_8 : decode cX7_placeOf 8 = .ok (.ifCond .eq 10, 3) := by decide +kernel
theorem dX7_placeOf_11 : decode cX7_placeOf 11 = .ok (.iload_n 0, 1) := by decide +kernel
theorem dX7_placeOf_12 : decode cX7_placeOf 12 = .ok (.bipush 97, 2) := by decide +kernel
theorem dX7_placeOf_14 : decode cX7_placeOf 14 = .ok (.isub, 1) := by decide +kernel
theorem dX7_placeOf_15 : decode cX7_placeOf 15 = .ok (.goto 4, 3) := by decide +kernel
theorem dX7_placeOf_18 : decode cX7_placeOf 18 = .ok (.iconst (-1), 1) := by decide +kernel
theorem dX7_placeOf_19 : decode cX7_placeOf 19 = .ok (.ireturn, 1) := by decide +kernel
theorem dX8_init_0 : decode cX8_init 0 = .ok (.aload_n 0, 1) := by decide +kernel
theorem dX8_init_1 : decode cX8_init 1 = .ok (.invokespecial 3, 3) := by decide +kernel
theorem dX8_init_4 : decode cX8_init 4 = .ok (.aload_n 0, 1) := by decide +kernel
theorem dX8_init_5 : decode cX8_init 5 = .ok (.ldc 9, 2) := by decide +kernel
theorem dX8_init_7 : decode cX8_init 7 = .ok (.newarray .int, 2) := by decide +kernel
theorem dX8_init_9 : decode cX8_init 9 = .ok (.putfield 10, 3) := by decide +kernel
theorem dX8_init_12 : decode cX8_init 12 = .ok (.aload_n 0, 1) := by decide +kernel
theorem dX8_init_13 : decode cX8_init 13 = .ok (.sipush 16384, 3) := by decide +kernel
theorem dX8_init_16 : decode cX8_init 16 = .ok (.newarray .int, 2) := by decide +kernel
theorem dX8_init_18 : decode cX8_init 18 = .ok (.putfield 16, 3) := by decide +kernel
theorem dX8_init_21 : decode cX8_init 21 = .ok (.aload_n 0, 1) := by decide +kernel
theorem dX8_init_22 : decode cX8_init 22 = .ok (.iconst 0, 1) := by decide +kernel
theorem dX8_init_23 : decode cX8_init 23 = .ok (.putfield 19, 3) := by decide +kernel
theorem dX8_init_26 : decode cX8_init 26 = .ok (.return_, 1) := by decide +kernel
theorem dX8_best_0 : decode cX8_best 0 = .ok (.aload_n 0, 1) := by decide +kernel
theorem dX8_best_1 : decode cX8_best 1 = .ok (.iconst 0, 1) := by decide +kernel
theorem dX8_best_2 : decode cX8_best 2 = .ok (.putfield 19, 3) := by decide +kernel
theorem dX8_best_5 : decode cX8_best 5 = .ok (.aload_n 0, 1) := by decide +kernel
theorem dX8_best_6 : decode cX8_best 6 = .ok (.iconst 1, 1) := by decide +kernel
theorem dX8_best_7 : decode cX8_best 7 = .ok (.iload_n 1, 1) := by decide +kernel
theorem dX8_best_8 : decode cX8_best 8 = .ok (.ishl, 1) := by decide +kernel
theorem dX8_best_9 : decode cX8_best 9 = .ok (.iconst 1, 1) := by decide +kernel
theorem dX8_best_10 : decode cX8_best 10 = .ok (.iload_n 1, 1) := by decide +kernel
theorem dX8_best_11 : decode cX8_best 11 = .ok (.ishl, 1) := by decide +kernel
theorem dX8_best_12 : decode cX8_best 12 = .ok (.invokevirtual 23, 3) := by decide +kernel
theorem dX8_best_15 : decode cX8_best 15 = .ok (.aload_n 0, 1) := by decide +kernel
theorem dX8_best_16 : decode cX8_best 16 = .ok (.invokevirtual 27, 3) := by decide +kernel
theorem dX8_best_19 : decode cX8_best 19 = .ok (.iconst 1, 1) := by decide +kernel
theorem dX8_best_20 : decode cX8_best 20 = .ok (.istore 5, 2) := by decide +kernel
theorem dX8_best_22 : decode cX8_best 22 = .ok (.iload 5, 2) := by decide +kernel
theorem dX8_best_24 : decode cX8_best 24 = .ok (.iload_n 2, 1) := by decide +kernel
theorem dX8_best_25 : decode cX8_best 25 = .ok (.if_icmp .ge 26, 3) := by decide +kernel
theorem dX8_best_28 : decode cX8_best 28 = .ok (.iload 5, 2) := by decide +kernel
theorem dX8_best_30 : decode cX8_best 30 = .ok (.bipush 8, 2) := by decide +kernel
theorem dX8_best_32 : decode cX8_best 32 = .ok (.if_icmp .ge 19, 3) := by decide +kernel
theorem dX8_best_35 : decode cX8_best 35 = .ok (.aload_n 0, 1) := by decide +kernel
theorem dX8_best_36 : decode cX8_best 36 = .ok (.aload 4, 2) := by decide +kernel
theorem dX8_best_38 : decode cX8_best 38 = .ok (.invokevirtual 30, 3) := by decide +kernel
theorem dX8_best_41 : decode cX8_best 41 = .ok (.aload_n 0, 1) := by decide +kernel
theorem dX8_best_42 : decode cX8_best 42 = .ok (.invokevirtual 27, 3) := by decide +kernel
theorem dX8_best_45 : decode cX8_best 45 = .ok (.iinc 5 1, 3) := by decide +kernel
theorem dX8_best_48 : decode cX8_best 48 = .ok (.goto (-26), 3) := by decide +kernel
theorem dX8_best_51 : decode cX8_best 51 = .ok (.iconst (-1), 1) := by decide +kernel
theorem dX8_best_52 : decode cX8_best 52 = .ok (.istore 5, 2) := by decide +kernel
theorem dX8_best_54 : decode cX8_best 54 = .ok (.iconst (-1), 1) := by decide +kernel
theorem dX8_best_55 : decode cX8_best 55 = .ok (.istore 6, 2) := by decide +kernel
theorem dX8_best_57 : decode cX8_best 57 = .ok (.iconst 0, 1) := by decide +kernel
theorem dX8_best_58 : decode cX8_best 58 = .ok (.istore 7, 2) := by decide +kernel
theorem dX8_best_60 : decode cX8_best 60 = .ok (.iload 7, 2) := by decide +kernel
theorem dX8_best_62 : decode cX8_best 62 = .ok (.aload_n 0, 1) := by decide +kernel
theorem dX8_best_63 : decode cX8_best 63 = .ok (.getfield 19, 3) := by decide +kernel
theorem dX8_best_66 : decode cX8_best 66 = .ok (.if_icmp .ge 107, 3) := by decide +kernel
theorem dX8_best_69 : decode cX8_best 69 = .ok (.aload_n 0, 1) := by decide +kernel
theorem dX8_best_70 : decode cX8_best 70 = .ok (.getfield 16, 3) := by decide +kernel
theorem dX8_best_73 : decode cX8_best 73 = .ok (.iload 7, 2) := by decide +kernel
theorem dX8_best_75 : decode cX8_best 75 = .ok (.invokestatic 34, 3) := by decide +kernel
theorem dX8_best_78 : decode cX8_best 78 = .ok (.istore 8, 2) := by decide +kernel
theorem dX8_best_80 : decode cX8_best 80 = .ok (.aload_n 0, 1) := by decide +kernel
theorem dX8_best_81 : decode cX8_best 81 = .ok (.getfield 10, 3) := by decide +kernel
theorem dX8_best_84 : decode cX8_best 84 = .ok (.iload 8, 2) := by decide +kernel
theorem dX8_best_86 : decode cX8_best 86 = .ok (.invokestatic 34, 3) := by decide +kernel
theorem dX8_best_89 : decode cX8_best 89 = .ok (.aload 4, 2) := by decide +kernel
theorem dX8_best_91 : decode cX8_best 91 = .ok (.iload_n 1, 1) := by decide +kernel
theorem dX8_best_92 : decode cX8_best 92 = .ok (.invokevirtual 38, 3) := by decide +kernel
theorem dX8_best_95 : decode cX8_best 95 = .ok (.iand, 1) := by decide +kernel
theorem dX8_best_96 : decode cX8_best 96 = .ok (.ifCond .eq 7, 3) := by decide +kernel
theorem dX8_best_99 : decode cX8_best 99 = .ok (.iconst 1, 1) := by decide +kernel
theorem dX8_best_100 : decode cX8_best 100 = .ok (.goto 4, 3) := by decide +kernel
theorem dX8_best_103 : decode cX8_best 103 = .ok (.iconst 0, 1) := by decide +kernel
theorem dX8_best_104 : decode cX8_best 104 = .ok (.istore 9, 2) := by decide +kernel
theorem dX8_best_106 : decode cX8_best 106 = .ok (.iload 9, 2) := by decide +kernel
theorem dX8_best_108 : decode cX8_best 108 = .ok (.ifCond .eq 12, 3) := by decide +kernel
theorem dX8_best_111 : decode cX8_best 111 = .ok (.aload_n 3, 1) := by decide +kernel
theorem dX8_best_112 : decode cX8_best 112 = .ok (.iload 8, 2) := by decide +kernel
theorem dX8_best_114 : decode cX8_best 114 = .ok (.invokestatic 44, 3) := by decide +kernel
theorem dX8_best_117 : decode cX8_best 117 = .ok (.goto 4, 3) := by decide +kernel
theorem dX8_best_120 : decode cX8_best 120 = .ok (.iconst (-1), 1) := by decide +kernel
theorem dX8_best_121 : decode cX8_best 121 = .ok (.istore 10, 2) := by decide +kernel
theorem dX8_best_123 : decode cX8_best 123 = .ok (.iload 9, 2) := by decide +kernel
theorem dX8_best_125 : decode cX8_best 125 = .ok (.ifCond .eq 32, 3) := by decide +kernel
theorem dX8_best_128 : decode cX8_best 128 = .ok (.iload 10, 2) := by decide +kernel
theorem dX8_best_130 : decode cX8_best 130 = .ok (.iload 6, 2) := by decide +kernel
theorem dX8_best_132 : decode cX8_best 132 = .ok (.if_icmp .gt 17, 3) := by decide +kernel
theorem dX8_best_135 : decode cX8_best 135 = .ok (.iload 10, 2) := by decide +kernel
theorem dX8_best_137 : decode cX8_best 137 = .ok (.iload 6, 2) := by decide +kernel
theorem dX8_best_139 : decode cX8_best 139 = .ok (.if_icmp .ne 18, 3) := by decide +kernel
theorem dX8_best_142 : decode cX8_best 142 = .ok (.iload 8, 2) := by decide +kernel
theorem dX8_best_144 : decode cX8_best 144 = .ok (.iload 5, 2) := by decide +kernel
theorem dX8_best_146 : decode cX8_best 146 = .ok (.if_icmp .ge 11, 3) := by decide +kernel
theorem dX8_best_149 : decode cX8_best 149 = .ok (.iload 8, 2) := by decide +kernel
theorem dX8_best_151 : decode cX8_best 151 = .ok (.istore 5, 2) := by decide +kernel
theorem dX8_best_153 : decode cX8_best 153 = .ok (.iload 10, 2) := by decide +kernel
theorem dX8_best_155 : decode cX8_best 155 = .ok (.istore 6, 2) := by decide +kernel
theorem dX8_best_157 : decode cX8_best 157 = .ok (.aload_n 0, 1) := by decide +kernel
theorem dX8_best_158 : decode cX8_best 158 = .ok (.getfield 10, 3) := by decide +kernel
theorem dX8_best_161 : decode cX8_best 161 = .ok (.iload 8, 2) := by decide +kernel
theorem dX8_best_163 : decode cX8_best 163 = .ok (.iconst 0, 1) := by decide +kernel
theorem dX8_best_164 : decode cX8_best 164 = .ok (.invokestatic 47, 3) := by decide +kernel
theorem dX8_best_167 : decode cX8_best 167 = .ok (.iinc 7 1, 3) := by decide +kernel
theorem dX8_best_170 : decode cX8_best 170 = .ok (.goto (-110), 3) := by decide +kernel
theorem dX8_best_173 : decode cX8_best 173 = .ok (.iload 5, 2) := by decide +kernel
theorem dX8_best_175 : decode cX8_best 175 = .ok (.ireturn, 1) := by decide +kernel
theorem dX8_goOn_0 : decode cX8_goOn 0 = .ok (.aload_n 0, 1) := by decide +kernel
theorem dX8_goOn_1 : decode cX8_goOn 1 = .ok (.getfield 19, 3) := by decide +kernel
theorem dX8_goOn_4 : decode cX8_goOn 4 = .ok (.istore_n 2, 1) := by decide +kernel
theorem dX8_goOn_5 : decode cX8_goOn 5 = .ok (.iconst 0, 1) := by decide +kernel
theorem dX8_goOn_6 : decode cX8_goOn 6 = .ok (.istore_n 3, 1) := by decide +kernel
theorem dX8_goOn_7 : decode cX8_goOn 7 = .ok (.iload_n 3, 1) := by decide +kernel
theorem dX8_goOn_8 : decode cX8_goOn 8 = .ok (.iload_n 2, 1) := by decide +kernel
theorem dX8_goOn_9 : decode cX8_goOn 9 = .ok (.if_icmp .ge 78, 3) := by decide +kernel
theorem dX8_goOn_12 : decode cX8_goOn 12 = .ok (.aload_n 0, 1) := by decide +kernel
theorem dX8_goOn_13 : decode cX8_goOn 13 = .ok (.getfield 16, 3) := by decide +kernel
theorem dX8_goOn_16 : decode cX8_goOn 16 = .ok (.iload_n 3, 1) := by decide +kernel
theorem dX8_goOn_17 : decode cX8_goOn 17 = .ok (.invokestatic 34, 3) := by decide +kernel
theorem dX8_goOn_20 : decode cX8_goOn 20 = .ok (.istore 4, 2) := by decide +kernel
theorem dX8_goOn_22 : decode cX8_goOn 22 = .ok (.aload_n 1, 1) := by decide +kernel
theorem dX8_goOn_23 : decode cX8_goOn 23 = .ok (.aload_n 0, 1) := by decide +kernel
theorem dX8_goOn_24 : decode cX8_goOn 24 = .ok (.getfield 10, 3) := by decide +kernel
theorem dX8_goOn_27 : decode cX8_goOn 27 = .ok (.iload 4, 2) := by decide +kernel
theorem dX8_goOn_29 : decode cX8_goOn 29 = .ok (.invokestatic 34, 3) := by decide +kernel
theorem dX8_goOn_32 : decode cX8_goOn 32 = .ok (.ldc 51, 2) := by decide +kernel
theorem dX8_goOn_34 : decode cX8_goOn 34 = .ok (.iand, 1) := by decide +kernel
theorem dX8_goOn_35 : decode cX8_goOn 35 = .ok (.invokevirtual 52, 3) := by decide +kernel
theorem dX8_goOn_38 : decode cX8_goOn 38 = .ok (.istore 5, 2) := by decide +kernel
theorem dX8_goOn_40 : decode cX8_goOn 40 = .ok (.iconst 0, 1) := by decide +kernel
theorem dX8_goOn_41 : decode cX8_goOn 41 = .ok (.istore 6, 2) := by decide +kernel
theorem dX8_goOn_43 : decode cX8_goOn 43 = .ok (.iload 6, 2) := by decide +kernel
theorem dX8_goOn_45 : decode cX8_goOn 45 = .ok (.bipush 16, 2) := by decide +kernel
theorem dX8_goOn_47 : decode cX8_goOn 47 = .ok (.if_icmp .ge 34, 3) := by decide +kernel
theorem dX8_goOn_50 : decode cX8_goOn 50 = .ok (.iload 5, 2) := by decide +kernel
theorem dX8_goOn_52 : decode cX8_goOn 52 = .ok (.iload 6, 2) := by decide +kernel
theorem dX8_goOn_54 : decode cX8_goOn 54 = .ok (.invokestatic 55, 3) := by decide +kernel
theorem dX8_goOn_57 : decode cX8_goOn 57 = .ok (.ifCond .eq 18, 3) := by decide +kernel
theorem dX8_goOn_60 : decode cX8_goOn 60 = .ok (.aload_n 0, 1) := by decide +kernel
theorem dX8_goOn_61 : decode cX8_goOn 61 = .ok (.iload 4, 2) := by decide +kernel
theorem dX8_goOn_63 : decode cX8_goOn 63 = .ok (.iconst 1, 1) := by decide +kernel
theorem dX8_goOn_64 : decode cX8_goOn 64 = .ok (.iload 6, 2) := by decide +kernel
theorem dX8_goOn_66 : decode cX8_goOn 66 = .ok (.ishl, 1) := by decide +kernel
theorem dX8_goOn_67 : decode cX8_goOn 67 = .ok (.ior, 1) := by decide +kernel
theorem dX8_goOn_68 : decode cX8_goOn 68 = .ok (.iconst 1, 1) := by decide +kernel
theorem dX8_goOn_69 : decode cX8_goOn 69 = .ok (.iload 6, 2) := by decide +kernel
theorem dX8_goOn_71 : decode cX8_goOn 71 = .ok (.ishl, 1) := by decide +kernel
theorem dX8_goOn_72 : decode cX8_goOn 72 = .ok (.invokevirtual 23, 3) := by decide +kernel
theorem dX8_goOn_75 : decode cX8_goOn 75 = .ok (.iinc 6 1, 3) := by decide +kernel
theorem dX8_goOn_78 : decode cX8_goOn 78 = .ok (.goto (-35), 3) := by decide +kernel
theorem dX8_goOn_81 : decode cX8_goOn 81 = .ok (.iinc 3 1, 3) := by decide +kernel
theorem dX8_goOn_84 : decode cX8_goOn 84 = .ok (.goto (-77), 3) := by decide +kernel
theorem dX8_goOn_87 : decode cX8_goOn 87 = .ok (.return_, 1) := by decide +kernel
theorem dX8_add_0 : decode cX8_add 0 = .ok (.aload_n 0, 1) := by decide +kernel
theorem dX8_add_1 : decode cX8_add 1 = .ok (.getfield 10, 3) := by decide +kernel
theorem dX8_add_4 : decode cX8_add 4 = .ok (.iload_n 1, 1) := by decide +kernel
theorem dX8_add_5 : decode cX8_add 5 = .ok (.invokestatic 34, 3) := by decide +kernel
theorem dX8_add_8 : decode cX8_add 8 = .ok (.istore_n 3, 1) := by decide +kernel
theorem dX8_add_9 : decode cX8_add 9 = .ok (.iload_n 3, 1) := by decide +kernel
theorem dX8_add_10 : decode cX8_add 10 = .ok (.ifCond .ne 25, 3) := by decide +kernel
theorem dX8_add_13 : decode cX8_add 13 = .ok (.aload_n 0, 1) := by decide +kernel
theorem dX8_add_14 : decode cX8_add 14 = .ok (.getfield 16, 3) := by decide +kernel
theorem dX8_add_17 : decode cX8_add 17 = .ok (.aload_n 0, 1) := by decide +kernel
theorem dX8_add_18 : decode cX8_add 18 = .ok (.getfield 19, 3) := by decide +kernel
theorem dX8_add_21 : decode cX8_add 21 = .ok (.iload_n 1, 1) := by decide +kernel
theorem dX8_add_22 : decode cX8_add 22 = .ok (.invokestatic 47, 3) := by decide +kernel
theorem dX8_add_25 : decode cX8_add 25 = .ok (.aload_n 0, 1) := by decide +kernel
theorem dX8_add_26 : decode cX8_add 26 = .ok (.dup, 1) := by decide +kernel
theorem dX8_add_27 : decode cX8_add 27 = .ok (.getfield 19, 3) := by decide +kernel
theorem dX8_add_30 : decode cX8_add 30 = .ok (.iconst 1, 1) := by decide +kernel
theorem dX8_add_31 : decode cX8_add 31 = .ok (.iadd, 1) := by decide +kernel
theorem dX8_add_32 : decode cX8_add 32 = .ok (.putfield 19, 3) := by decide +kernel
theorem dX8_add_35 : decode cX8_add 35 = .ok (.aload_n 0, 1) := by decide +kernel
theorem dX8_add_36 : decode cX8_add 36 = .ok (.getfield 10, 3) := by decide +kernel
theorem dX8_add_39 : decode cX8_add 39 = .ok (.iload_n 1, 1) := by decide +kernel
theorem dX8_add_40 : decode cX8_add 40 = .ok (.iload_n 3, 1) := by decide +kernel
theorem dX8_add_41 : decode cX8_add 41 = .ok (.iload_n 2, 1) := by decide +kernel
theorem dX8_add_42 : decode cX8_add 42 = .ok (.bipush 16, 2) := by decide +kernel
theorem dX8_add_44 : decode cX8_add 44 = .ok (.ishl, 1) := by decide +kernel
theorem dX8_add_45 : decode cX8_add 45 = .ok (.ior, 1) := by decide +kernel
theorem dX8_add_46 : decode cX8_add 46 = .ok (.invokestatic 47, 3) := by decide +kernel
theorem dX8_add_49 : decode cX8_add 49 = .ok (.return_, 1) := by decide +kernel
theorem dX8_settle_0 : decode cX8_settle 0 = .ok (.iconst 0, 1) := by decide +kernel
theorem dX8_settle_1 : decode cX8_settle 1 = .ok (.istore_n 1, 1) := by decide +kernel
theorem dX8_settle_2 : decode cX8_settle 2 = .ok (.iload_n 1, 1) := by decide +kernel
theorem dX8_settle_3 : decode cX8_settle 3 = .ok (.aload_n 0, 1) := by decide +kernel
theorem dX8_settle_4 : decode cX8_settle 4 = .ok (.getfield 19, 3) := by decide +kernel
theorem dX8_settle_7 : decode cX8_settle 7 = .ok (.if_icmp .ge 44, 3) := by decide +kernel
theorem dX8_settle_10 : decode cX8_settle 10 = .ok (.aload_n 0, 1) := by decide +kernel
theorem dX8_settle_11 : decode cX8_settle 11 = .ok (.getfield 16, 3) := by decide +kernel
theorem dX8_settle_14 : decode cX8_settle 14 = .ok (.iload_n 1, 1) := by decide +kernel
theorem dX8_settle_15 : decode cX8_settle 15 = .ok (.invokestatic 34, 3) := by decide +kernel
theorem dX8_settle_18 : decode cX8_settle 18 = .ok (.istore_n 2, 1) := by decide +kernel
theorem dX8_settle_19 : decode cX8_settle 19 = .ok (.aload_n 0, 1) := by decide +kernel
theorem dX8_settle_20 : decode cX8_settle 20 = .ok (.getfield 10, 3) := by decide +kernel
theorem dX8_settle_23 : decode cX8_settle 23 = .ok (.iload_n 2, 1) := by decide +kernel
theorem dX8_settle_24 : decode cX8_settle 24 = .ok (.invokestatic 34, 3) := by decide +kernel
theorem dX8_settle_27 : decode cX8_settle 27 = .ok (.istore_n 3, 1) := by decide +kernel
theorem dX8_settle_28 : decode cX8_settle 28 = .ok (.aload_n 0, 1) := by decide +kernel
theorem dX8_settle_29 : decode cX8_settle 29 = .ok (.getfield 10, 3) := by decide +kernel
theorem dX8_settle_32 : decode cX8_settle 32 = .ok (.iload_n 2, 1) := by decide +kernel
theorem dX8_settle_33 : decode cX8_settle 33 = .ok (.iload_n 3, 1) := by decide +kernel
theorem dX8_settle_34 : decode cX8_settle 34 = .ok (.iload_n 3, 1) := by decide +kernel
theorem dX8_settle_35 : decode cX8_settle 35 = .ok (.bipush 16, 2) := by decide +kernel
theorem dX8_settle_37 : decode cX8_settle 37 = .ok (.iushr, 1) := by decide +kernel
theorem dX8_settle_38 : decode cX8_settle 38 = .ok (.ior, 1) := by decide +kernel
theorem dX8_settle_39 : decode cX8_settle 39 = .ok (.ldc 51, 2) := by decide +kernel
theorem dX8_settle_41 : decode cX8_settle 41 = .ok (.iand, 1) := by decide +kernel
theorem dX8_settle_42 : decode cX8_settle 42 = .ok (.invokestatic 47, 3) := by decide +kernel
theorem dX8_settle_45 : decode cX8_settle 45 = .ok (.iinc 1 1, 3) := by decide +kernel
theorem dX8_settle_48 : decode cX8_settle 48 = .ok (.goto (-46), 3) := by decide +kernel
theorem dX8_settle_51 : decode cX8_settle 51 = .ok (.return_, 1) := by decide +kernel
theorem dX9_init_0 : decode cX9_init 0 = .ok (.aload_n 0, 1) := by decide +kernel
theorem dX9_init_1 : decode cX9_init 1 = .ok (.invokespecial 1, 3) := by decide +kernel
theorem dX9_init_4 : decode cX9_init 4 = .ok (.aload_n 0, 1) := by decide +kernel
theorem dX9_init_5 : decode cX9_init 5 = .ok (.new 7, 3) := by decide +kernel
theorem dX9_init_8 : decode cX9_init 8 = .ok (.dup, 1) := by decide +kernel
theorem dX9_init_9 : decode cX9_init 9 = .ok (.invokespecial 9, 3) := by decide +kernel
theorem dX9_init_12 : decode cX9_init 12 = .ok (.putfield 10, 3) := by decide +kernel
theorem dX9_init_15 : decode cX9_init 15 = .ok (.aload_n 0, 1) := by decide +kernel
theorem dX9_init_16 : decode cX9_init 16 = .ok (.new 16, 3) := by decide +kernel
theorem dX9_init_19 : decode cX9_init 19 = .ok (.dup, 1) := by decide +kernel
theorem dX9_init_20 : decode cX9_init 20 = .ok (.invokespecial 18, 3) := by decide +kernel
theorem dX9_init_23 : decode cX9_init 23 = .ok (.putfield 19, 3) := by decide +kernel
theorem dX9_init_26 : decode cX9_init 26 = .ok (.aload_n 0, 1) := by decide +kernel
theorem dX9_init_27 : decode cX9_init 27 = .ok (.new 23, 3) := by decide +kernel
theorem dX9_init_30 : decode cX9_init 30 = .ok (.dup, 1) := by decide +kernel
theorem dX9_init_31 : decode cX9_init 31 = .ok (.invokespecial 25, 3) := by decide +kernel
theorem dX9_init_34 : decode cX9_init 34 = .ok (.putfield 26, 3) := by decide +kernel
theorem dX9_init_37 : decode cX9_init 37 = .ok (.aload_n 0, 1) := by decide +kernel
theorem dX9_init_38 : decode cX9_init 38 = .ok (.new 23, 3) := by decide +kernel
theorem dX9_init_41 : decode cX9_init 41 = .ok (.dup, 1) := by decide +kernel
theorem dX9_init_42 : decode cX9_init 42 = .ok (.invokespecial 25, 3) := by decide +kernel
theorem dX9_init_45 : decode cX9_init 45 = .ok (.putfield 30, 3) := by decide +kernel
theorem dX9_init_48 : decode cX9_init 48 = .ok (.aload_n 0, 1) := by decide +kernel
theorem dX9_init_49 : decode cX9_init 49 = .ok (.new 23, 3) := by decide +kernel
theorem dX9_init_52 : decode cX9_init 52 = .ok (.dup, 1) := by decide +kernel
theorem dX9_init_53 : decode cX9_init 53 = .ok (.invokespecial 25, 3) := by decide +kernel
theorem dX9_init_56 : decode cX9_init 56 = .ok (.putfield 33, 3) := by decide +kernel
theorem dX9_init_59 : decode cX9_init 59 = .ok (.aload_n 0, 1) := by decide +kernel
theorem dX9_init_60 : decode cX9_init 60 = .ok (.bipush 8, 2) := by decide +kernel
theorem dX9_init_62 : decode cX9_init 62 = .ok (.anewarray 36, 3) := by decide +kernel
theorem dX9_init_65 : decode cX9_init 65 = .ok (.putfield 38, 3) := by decide +kernel
theorem dX9_init_68 : decode cX9_init 68 = .ok (.aload_n 0, 1) := by decide +kernel
theorem dX9_init_69 : decode cX9_init 69 = .ok (.new 42, 3) := by decide +kernel
theorem dX9_init_72 : decode cX9_init 72 = .ok (.dup, 1) := by decide +kernel
theorem dX9_init_73 : decode cX9_init 73 = .ok (.invokespecial 44, 3) := by decide +kernel
theorem dX9_init_76 : decode cX9_init 76 = .ok (.putfield 45, 3) := by decide +kernel
theorem dX9_init_79 : decode cX9_init 79 = .ok (.aload_n 0, 1) := by decide +kernel
theorem dX9_init_80 : decode cX9_init 80 = .ok (.new 49, 3) := by decide +kernel
theorem dX9_init_83 : decode cX9_init 83 = .ok (.dup, 1) := by decide +kernel
theorem dX9_init_84 : decode cX9_init 84 = .ok (.invokespecial 51, 3) := by decide +kernel
theorem dX9_init_87 : decode cX9_init 87 = .ok (.putfield 52, 3) := by decide +kernel
theorem dX9_init_90 : decode cX9_init 90 = .ok (.aload_n 0, 1) := by decide +kernel
theorem dX9_init_91 : decode cX9_init 91 = .ok (.new 56, 3) := by decide +kernel
theorem dX9_init_94 : decode cX9_init 94 = .ok (.dup, 1) := by decide +kernel
theorem dX9_init_95 : decode cX9_init 95 = .ok (.invokespecial 58, 3) := by decide +kernel
theorem dX9_init_98 : decode cX9_init 98 = .ok (.putfield 59, 3) := by decide +kernel
theorem dX9_init_101 : decode cX9_init 101 = .ok (.aload_n 0, 1) := by decide +kernel
theorem dX9_init_102 : decode cX9_init 102 = .ok (.bipush 54, 2) := by decide +kernel
theorem dX9_init_104 : decode cX9_init 104 = .ok (.newarray .int, 2) := by decide +kernel
theorem dX9_init_106 : decode cX9_init 106 = .ok (.putfield 63, 3) := by decide +kernel
theorem dX9_init_109 : decode cX9_init 109 = .ok (.aload_n 0, 1) := by decide +kernel
theorem dX9_init_110 : decode cX9_init 110 = .ok (.new 36, 3) := by decide +kernel
theorem dX9_init_113 : decode cX9_init 113 = .ok (.dup, 1) := by decide +kernel
theorem dX9_init_114 : decode cX9_init 114 = .ok (.invokespecial 67, 3) := by decide +kernel
theorem dX9_init_117 : decode cX9_init 117 = .ok (.putfield 68, 3) := by decide +kernel
theorem dX9_init_120 : decode cX9_init 120 = .ok (.aload_n 0, 1) := by decide +kernel
theorem dX9_init_121 : decode cX9_init 121 = .ok (.new 72, 3) := by decide +kernel
theorem dX9_init_124 : decode cX9_init 124 = .ok (.dup, 1) := by decide +kernel
theorem dX9_init_125 : decode cX9_init 125 = .ok (.invokespecial 74, 3) := by decide +kernel
theorem dX9_init_128 : decode cX9_init 128 = .ok (.putfield 75, 3) := by decide +kernel
theorem dX9_init_131 : decode cX9_init 131 = .ok (.aload_n 0, 1) := by decide +kernel
theorem dX9_init_132 : decode cX9_init 132 = .ok (.new 72, 3) := by decide +kernel
theorem dX9_init_135 : decode cX9_init 135 = .ok (.dup, 1) := by decide +kernel
theorem dX9_init_136 : decode cX9_init 136 = .ok (.invokespecial 74, 3) := by decide +kernel
theorem dX9_init_139 : decode cX9_init 139 = .ok (.putfield 79, 3) := by decide +kernel
theorem dX9_init_142 : decode cX9_init 142 = .ok (.aload_n 0, 1) := by decide +kernel
theorem dX9_init_143 : decode cX9_init 143 = .ok (.aconst_null, 1) := by decide +kernel
theorem dX9_init_144 : decode cX9_init 144 = .ok (.putfield 82, 3) := by decide +kernel
theorem dX9_init_147 : decode cX9_init 147 = .ok (.aload_n 0, 1) := by decide +kernel
theorem dX9_init_148 : decode cX9_init 148 = .ok (.iconst 0, 1) := by decide +kernel
theorem dX9_init_149 : decode cX9_init 149 = .ok (.putfield 86, 3) := by decide +kernel
theorem dX9_init_152 : decode cX9_init 152 = .ok (.iconst 0, 1) := by decide +kernel
theorem dX9_init_153 : decode cX9_init 153 = .ok (.istore_n 1, 1) := by decide +kernel
theorem dX9_init_154 : decode cX9_init 154 = .ok (.iload_n 1, 1) := by decide +kernel
theorem dX9_init_155 : decode cX9_init 155 = .ok (.aload_n 0, 1) := by decide +kernel
theorem dX9_init_156 : decode cX9_init 156 = .ok (.getfield 38, 3) := by decide +kernel
theorem dX9_init_159 : decode cX9_init 159 = .ok (.arraylength, 1) := by decide +kernel
theorem dX9_init_160 : decode cX9_init 160 = .ok (.if_icmp .ge 22, 3) := by decide +kernel
theorem dX9_init_163 : decode cX9_init 163 = .ok (.aload_n 0, 1) := by decide +kernel
theorem dX9_init_164 : decode cX9_init 164 = .ok (.getfield 38, 3) := by decide +kernel
theorem dX9_init_167 : decode cX9_init 167 = .ok (.iload_n 1, 1) := by decide +kernel
theorem dX9_init_168 : decode cX9_init 168 = .ok (.new 36, 3) := by decide +kernel
theorem dX9_init_171 : decode cX9_init 171 = .ok (.dup, 1) := by decide +kernel
theorem dX9_init_172 : decode cX9_init 172 = .ok (.invokespecial 67, 3) := by decide +kernel
theorem dX9_init_175 : decode cX9_init 175 = .ok (.aastore, 1) := by decide +kernel
theorem dX9_init_176 : decode cX9_init 176 = .ok (.iinc 1 1, 3) := by decide +kernel
theorem dX9_init_179 : decode cX9_init 179 = .ok (.goto (-25), 3) := by decide +kernel
theorem dX9_init_182 : decode cX9_init 182 = .ok (.return_, 1) := by decide +kernel
theorem dX9_place_0 : decode cX9_place 0 = .ok (.iload_n 1, 1) := by decide +kernel
theorem dX9_place_1 : decode cX9_place 1 = .ok (.iconst 0, 1) := by decide +kernel
theorem dX9_place_2 : decode cX9_place 2 = .ok (.bipush 15, 2) := by decide +kernel
theorem dX9_place_4 : decode cX9_place 4 = .ok (.invokestatic 90, 3) := by decide +kernel
theorem dX9_place_7 : decode cX9_place 7 = .ok (.ifCond .eq 24, 3) := by decide +kernel
theorem dX9_place_10 : decode cX9_place 10 = .ok (.iload_n 2, 1) := by decide +kernel
theorem dX9_place_11 : decode cX9_place 11 = .ok (.iconst 0, 1) := by decide +kernel
theorem dX9_place_12 : decode cX9_place 12 = .ok (.bipush 99, 2) := by decide +kernel
theorem dX9_place_14 : decode cX9_place 14 = .ok (.invokestatic 90, 3) := by decide +kernel
theorem dX9_place_17 : decode cX9_place 17 = .ok (.ifCond .eq 14, 3) := by decide +kernel
theorem dX9_place_20 : decode cX9_place 20 = .ok (.iload_n 3, 1) := by decide +kernel
theorem dX9_place_21 : decode cX9_place 21 = .ok (.iconst 0, 1) := by decide +kernel
theorem dX9_place_22 : decode cX9_place 22 = .ok (.sipush 999, 3) := by decide +kernel
theorem dX9_place_25 : decode cX9_place 25 = .ok (.invokestatic 90, 3) := by decide +kernel
theorem dX9_place_28 : decode cX9_place 28 = .ok (.ifCond .ne 5, 3) := by decide +kernel
theorem dX9_place_31 : decode cX9_place 31 = .ok (.iconst 0, 1) := by decide +kernel
theorem dX9_place_32 : decode cX9_place 32 = .ok (.ireturn, 1) := by decide +kernel
theorem dX9_place_33 : decode cX9_place 33 = .ok (.aload_n 0, 1) := by decide +kernel
theorem dX9_place_34 : decode cX9_place 34 = .ok (.getfield 19, 3) := by decide +kernel
theorem dX9_place_37 : decode cX9_place 37 = .ok (.dup, 1) := by decide +kernel
theorem dX9_place_38 : decode cX9_place 38 = .ok (.getfield 94, 3) := by decide +kernel
theorem dX9_place_41 : decode cX9_place 41 = .ok (.iconst 1, 1) := by decide +kernel
theorem dX9_place_42 : decode cX9_place 42 = .ok (.iload_n 1, 1) := by decide +kernel
theorem dX9_place_43 : decode cX9_place 43 = .ok (.ishl, 1) := by decide +kernel
theorem dX9_place_44 : decode cX9_place 44 = .ok (.ior, 1) := by decide +kernel
theorem dX9_place_45 : decode cX9_place 45 = .ok (.putfield 94, 3) := by decide +kernel
theorem dX9_place_48 : decode cX9_place 48 = .ok (.aload_n 0, 1) := by decide +kernel
theorem dX9_place_49 : decode cX9_place 49 = .ok (.getfield 26, 3) := by decide +kernel
theorem dX9_place_52 : decode cX9_place 52 = .ok (.getfield 98, 3) := by decide +kernel
theorem dX9_place_55 : decode cX9_place 55 = .ok (.iload_n 1, 1) := by decide +kernel
theorem dX9_place_56 : decode cX9_place 56 = .ok (.iload_n 2, 1) := by decide +kernel
theorem dX9_place_57 : decode cX9_place 57 = .ok (.invokestatic 101, 3) := by decide +kernel
theorem dX9_place_60 : decode cX9_place 60 = .ok (.aload_n 0, 1) := by decide +kernel
theorem dX9_place_61 : decode cX9_place 61 = .ok (.getfield 26, 3) := by decide +kernel
theorem dX9_place_64 : decode cX9_place 64 = .ok (.getfield 105, 3) := by decide +kernel
theorem dX9_place_67 : decode cX9_place 67 = .ok (.iload_n 1, 1) := by decide +kernel
theorem dX9_place_68 : decode cX9_place 68 = .ok (.iload_n 3, 1) := by decide +kernel
theorem dX9_place_69 : decode cX9_place 69 = .ok (.invokestatic 101, 3) := by decide +kernel
theorem dX9_place_72 : decode cX9_place 72 = .ok (.iconst 1, 1) := by decide +kernel
theorem dX9_place_73 : decode cX9_place 73 = .ok (.ireturn, 1) := by decide +kernel
theorem dX9_constable_0 : decode cX9_constable 0 = .ok (.iload_n 1, 1) := by decide +kernel
theorem dX9_constable_1 : decode cX9_constable 1 = .ok (.iconst 0, 1) := by decide +kernel
theorem dX9_constable_2 : decode cX9_constable 2 = .ok (.bipush 7, 2) := by decide +kernel
theorem dX9_constable_4 : decode cX9_constable 4 = .ok (.invokestatic 90, 3) := by decide +kernel
theorem dX9_constable_7 : decode cX9_constable 7 = .ok (.ifCond .eq 14, 3) := by decide +kernel
theorem dX9_constable_10 : decode cX9_constable 10 = .ok (.aload_n 0, 1) := by decide +kernel
theorem dX9_constable_11 : decode cX9_constable 11 = .ok (.getfield 19, 3) := by decide +kernel
theorem dX9_constable_14 : decode cX9_constable 14 = .ok (.iload_n 2, 1) := by decide +kernel
theorem dX9_constable_15 : decode cX9_constable 15 = .ok (.invokevirtual 108, 3) := by decide +kernel
theorem dX9_constable_18 : decode cX9_constable 18 = .ok (.ifCond .ne 5, 3) := by decide +kernel
theorem dX9_constable_21 : decode cX9_constable 21 = .ok (.iconst 0, 1) := by decide +kernel
theorem dX9_constable_22 : decode cX9_constable 22 = .ok (.ireturn, 1) := by decide +kernel
theorem dX9_constable_23 : decode cX9_constable 23 = .ok (.aload_n 0, 1) := by decide +kernel
theorem dX9_constable_24 : decode cX9_constable 24 = .ok (.getfield 26, 3) := by decide +kernel
theorem dX9_constable_27 : decode cX9_constable 27 = .ok (.dup, 1) := by decide +kernel
theorem dX9_constable_28 : decode cX9_constable 28 = .ok (.getfield 112, 3) := by decide +kernel
theorem dX9_constable_31 : decode cX9_constable 31 = .ok (.iconst 1, 1) := by decide +kernel
theorem dX9_constable_32 : decode cX9_constable 32 = .ok (.iload_n 1, 1) := by decide +kernel
theorem dX9_constable_33 : decode cX9_constable 33 = .ok (.ishl, 1) := by decide +kernel
theorem dX9_constable_34 : decode cX9_constable 34 = .ok (.ior, 1) := by decide +kernel
theorem dX9_constable_35 : decode cX9_constable 35 = .ok (.putfield 112, 3) := by decide +kernel
theorem dX9_constable_38 : decode cX9_constable 38 = .ok (.aload_n 0, 1) := by decide +kernel
theorem dX9_constable_39 : decode cX9_constable 39 = .ok (.getfield 26, 3) := by decide +kernel
theorem dX9_constable_42 : decode cX9_constable 42 = .ok (.getfield 115, 3) := by decide +kernel
theorem dX9_constable_45 : decode cX9_constable 45 = .ok (.iload_n 1, 1) := by decide +kernel
theorem dX9_constable_46 : decode cX9_constable 46 = .ok (.iload_n 2, 1) := by decide +kernel
theorem dX9_constable_47 : decode cX9_constable 47 = .ok (.invokestatic 101, 3) := by decide +kernel
theorem dX9_constable_50 : decode cX9_constable 50 = .ok (.aload_n 0, 1) := by decide +kernel
theorem dX9_constable_51 : decode cX9_constable 51 = .ok (.getfield 26, 3) := by decide +kernel
theorem dX9_constable_54 : decode cX9_constable 54 = .ok (.getfield 118, 3) := by decide +kernel
theorem dX9_constable_57 : decode cX9_constable 57 = .ok (.iload_n 1, 1) := by decide +kernel
theorem dX9_constable_58 : decode cX9_constable 58 = .ok (.iconst 0, 1) := by decide +kernel
theorem dX9_constable_59 : decode cX9_constable 59 = .ok (.invokestatic 101, 3) := by decide +kernel
theorem dX9_constable_62 : decode cX9_constable 62 = .ok (.iconst 1, 1) := by decide +kernel
theorem dX9_constable_63 : decode cX9_constable 63 = .ok (.ireturn, 1) := by decide +kernel
theorem dX9_seed_0 : decode cX9_seed 0 = .ok (.iload_n 1, 1) := by decide +kernel
theorem dX9_seed_1 : decode cX9_seed 1 = .ok (.iconst 0, 1) := by decide +kernel
theorem dX9_seed_2 : decode cX9_seed 2 = .ok (.ldc 121, 2) := by decide +kernel
theorem dX9_seed_4 : decode cX9_seed 4 = .ok (.invokestatic 90, 3) := by decide +kernel
theorem dX9_seed_7 : decode cX9_seed 7 = .ok (.ifCond .ne 5, 3) := by decide +kernel
theorem dX9_seed_10 : decode cX9_seed 10 = .ok (.iconst 0, 1) := by decide +kernel
theorem dX9_seed_11 : decode cX9_seed 11 = .ok (.ireturn, 1) := by decide +kernel
theorem dX9_seed_12 : decode cX9_seed 12 = .ok (.aload_n 0, 1) := by decide +kernel
theorem dX9_seed_13 : decode cX9_seed 13 = .ok (.getfield 26, 3) := by decide +kernel
theorem dX9_seed_16 : decode cX9_seed 16 = .ok (.iload_n 1, 1) := by decide +kernel
theorem dX9_seed_17 : decode cX9_seed 17 = .ok (.putfield 122, 3) := by decide +kernel
theorem dX9_seed_20 : decode cX9_seed 20 = .ok (.iconst 1, 1) := by decide +kernel
theorem dX9_seed_21 : decode cX9_seed 21 = .ok (.ireturn, 1) := by decide +kernel
theorem dX9_feed_0 : decode cX9_feed 0 = .ok (.aload_n 0, 1) := by decide +kernel
theorem dX9_feed_1 : decode cX9_feed 1 = .ok (.getfield 10, 3) := by decide +kernel
theorem dX9_feed_4 : decode cX9_feed 4 = .ok (.getfield 125, 3) := by decide +kernel
theorem dX9_feed_7 : decode cX9_feed 7 = .ok (.bipush 20, 2) := by decide +kernel
theorem dX9_feed_9 : decode cX9_feed 9 = .ok (.iadd, 1) := by decide +kernel
theorem dX9_feed_10 : decode cX9_feed 10 = .ok (.sipush 260, 3) := by decide +kernel
theorem dX9_feed_13 : decode cX9_feed 13 = .ok (.if_icmp .le 5, 3) := by decide +kernel
theorem dX9_feed_16 : decode cX9_feed 16 = .ok (.iconst (-1), 1) := by decide +kernel
theorem dX9_feed_17 : decode cX9_feed 17 = .ok (.ireturn, 1) := by decide +kernel
theorem dX9_feed_18 : decode cX9_feed 18 = .ok (.aload_n 0, 1) := by decide +kernel
theorem dX9_feed_19 : decode cX9_feed 19 = .ok (.getfield 10, 3) := by decide +kernel
theorem dX9_feed_22 : decode cX9_feed 22 = .ok (.iload_n 1, 1) := by decide +kernel
theorem dX9_feed_23 : decode cX9_feed 23 = .ok (.invokevirtual 128, 3) := by decide +kernel
theorem dX9_feed_26 : decode cX9_feed 26 = .ok (.aload_n 0, 1) := by decide +kernel
theorem dX9_feed_27 : decode cX9_feed 27 = .ok (.getfield 10, 3) := by decide +kernel
theorem dX9_feed_30 : decode cX9_feed 30 = .ok (.iload_n 2, 1) := by decide +kernel
theorem dX9_feed_31 : decode cX9_feed 31 = .ok (.invokevirtual 128, 3) := by decide +kernel
theorem dX9_feed_34 : decode cX9_feed 34 = .ok (.aload_n 0, 1) := by decide +kernel
theorem dX9_feed_35 : decode cX9_feed 35 = .ok (.getfield 10, 3) := by decide +kernel
theorem dX9_feed_38 : decode cX9_feed 38 = .ok (.iload_n 3, 1) := by decide +kernel
theorem dX9_feed_39 : decode cX9_feed 39 = .ok (.invokevirtual 128, 3) := by decide +kernel
theorem dX9_feed_42 : decode cX9_feed 42 = .ok (.aload_n 0, 1) := by decide +kernel
theorem dX9_feed_43 : decode cX9_feed 43 = .ok (.getfield 10, 3) := by decide +kernel
theorem dX9_feed_46 : decode cX9_feed 46 = .ok (.iload 4, 2) := by decide +kernel
theorem dX9_feed_48 : decode cX9_feed 48 = .ok (.invokevirtual 128, 3) := by decide +kernel
theorem dX9_feed_51 : decode cX9_feed 51 = .ok (.aload_n 0, 1) := by decide +kernel
theorem dX9_feed_52 : decode cX9_feed 52 = .ok (.getfield 10, 3) := by decide +kernel
theorem dX9_feed_55 : decode cX9_feed 55 = .ok (.iload 5, 2) := by decide +kernel
theorem dX9_feed_57 : decode cX9_feed 57 = .ok (.invokevirtual 128, 3) := by decide +kernel
theorem dX9_feed_60 : decode cX9_feed 60 = .ok (.aload_n 0, 1) := by decide +kernel
theorem dX9_feed_61 : decode cX9_feed 61 = .ok (.getfield 10, 3) := by decide +kernel
theorem dX9_feed_64 : decode cX9_feed 64 = .ok (.getfield 125, 3) := by decide +kernel
theorem dX9_feed_67 : decode cX9_feed 67 = .ok (.ireturn, 1) := by decide +kernel
theorem dX9_law_0 : decode cX9_law 0 = .ok (.iload_n 1, 1) := by decide +kernel
theorem dX9_law_1 : decode cX9_law 1 = .ok (.iconst 1, 1) := by decide +kernel
theorem dX9_law_2 : decode cX9_law 2 = .ok (.sipush 240, 3) := by decide +kernel
theorem dX9_law_5 : decode cX9_law 5 = .ok (.invokestatic 90, 3) := by decide +kernel
theorem dX9_law_8 : decode cX9_law 8 = .ok (.ifCond .eq 14, 3) := by decide +kernel
theorem dX9_law_11 : decode cX9_law 11 = .ok (.aload_n 0, 1) := by decide +kernel
theorem dX9_law_12 : decode cX9_law 12 = .ok (.getfield 10, 3) := by decide +kernel
theorem dX9_law_15 : decode cX9_law 15 = .ok (.iload_n 1, 1) := by decide +kernel
theorem dX9_law_16 : decode cX9_law 16 = .ok (.invokevirtual 132, 3) := by decide +kernel
theorem dX9_law_19 : decode cX9_law 19 = .ok (.ifCond .ne 5, 3) := by decide +kernel
theorem dX9_law_22 : decode cX9_law 22 = .ok (.iconst (-1), 1) := by decide +kernel
theorem dX9_law_23 : decode cX9_law 23 = .ok (.ireturn, 1) := by decide +kernel
theorem dX9_law_24 : decode cX9_law 24 = .ok (.aload_n 0, 1) := by decide +kernel
theorem dX9_law_25 : decode cX9_law 25 = .ok (.getfield 10, 3) := by decide +kernel
theorem dX9_law_28 : decode cX9_law 28 = .ok (.iload_n 1, 1) := by decide +kernel
theorem dX9_law_29 : decode cX9_law 29 = .ok (.invokevirtual 135, 3) := by decide +kernel
theorem dX9_law_32 : decode cX9_law 32 = .ok (.aload_n 0, 1) := by decide +kernel
theorem dX9_law_33 : decode cX9_law 33 = .ok (.getfield 79, 3) := by decide +kernel
theorem dX9_law_36 : decode cX9_law 36 = .ok (.aload_n 0, 1) := by decide +kernel
theorem dX9_law_37 : decode cX9_law 37 = .ok (.getfield 10, 3) := by decide +kernel
theorem dX9_law_40 : decode cX9_law 40 = .ok (.invokevirtual 138, 3) := by decide +kernel
theorem dX9_law_43 : decode cX9_law 43 = .ok (.aload_n 0, 1) := by decide +kernel
theorem dX9_law_44 : decode cX9_law 44 = .ok (.getfield 10, 3) := by decide +kernel
theorem dX9_law_47 : decode cX9_law 47 = .ok (.invokevirtual 142, 3) := by decide +kernel
theorem dX9_law_50 : decode cX9_law 50 = .ok (.ifCond .eq 21, 3) := by decide +kernel
theorem dX9_law_53 : decode cX9_law 53 = .ok (.aload_n 0, 1) := by decide +kernel
theorem dX9_law_54 : decode cX9_law 54 = .ok (.getfield 75, 3) := by decide +kernel
theorem dX9_law_57 : decode cX9_law 57 = .ok (.astore_n 2, 1) := by decide +kernel
theorem dX9_law_58 : decode cX9_law 58 = .ok (.aload_n 0, 1) := by decide +kernel
theorem dX9_law_59 : decode cX9_law 59 = .ok (.aload_n 0, 1) := by decide +kernel
theorem dX9_law_60 : decode cX9_law 60 = .ok (.getfield 79, 3) := by decide +kernel
theorem dX9_law_63 : decode cX9_law 63 = .ok (.putfield 75, 3) := by decide +kernel
theorem dX9_law_66 : decode cX9_law 66 = .ok (.aload_n 0, 1) := by decide +kernel
theorem dX9_law_67 : decode cX9_law 67 = .ok (.aload_n 2, 1) := by decide +kernel
theorem dX9_law_68 : decode cX9_law 68 = .ok (.putfield 79, 3) := by decide +kernel
theorem dX9_law_71 : decode cX9_law 71 = .ok (.aload_n 0, 1) := by decide +kernel
theorem dX9_law_72 : decode cX9_law 72 = .ok (.getfield 10, 3) := by decide +kernel
theorem dX9_law_75 : decode cX9_law 75 = .ok (.aload_n 0, 1) := by decide +kernel
theorem dX9_law_76 : decode cX9_law 76 = .ok (.getfield 75, 3) := by decide +kernel
theorem dX9_law_79 : decode cX9_law 79 = .ok (.getfield 146, 3) := by decide +kernel
theorem dX9_law_82 : decode cX9_law 82 = .ok (.invokevirtual 149, 3) := by decide +kernel
theorem dX9_law_85 : decode cX9_law 85 = .ok (.ireturn, 1) := by decide +kernel
theorem dX9_beat_0 : decode cX9_beat 0 = .ok (.iload_n 1, 1) := by decide +kernel
theorem dX9_beat_1 : decode cX9_beat 1 = .ok (.iconst 0, 1) := by decide +kernel
theorem dX9_beat_2 : decode cX9_beat 2 = .ok (.aload_n 0, 1) := by decide +kernel
theorem dX9_beat_3 : decode cX9_beat 3 = .ok (.getfield 38, 3) := by decide +kernel
theorem dX9_beat_6 : decode cX9_beat 6 = .ok (.arraylength, 1) := by decide +kernel
theorem dX9_beat_7 : decode cX9_beat 7 = .ok (.iconst 1, 1) := by decide +kernel
theorem dX9_beat_8 : decode cX9_beat 8 = .ok (.isub, 1) := by decide +kernel
theorem dX9_beat_9 : decode cX9_beat 9 = .ok (.invokestatic 90, 3) := by decide +kernel
theorem dX9_beat_12 : decode cX9_beat 12 = .ok (.ifCond .eq 24, 3) := by decide +kernel
theorem dX9_beat_15 : decode cX9_beat 15 = .ok (.iload_n 2, 1) := by decide +kernel
theorem dX9_beat_16 : decode cX9_beat 16 = .ok (.iconst 1, 1) := by decide +kernel
theorem dX9_beat_17 : decode cX9_beat 17 = .ok (.bipush 60, 2) := by decide +kernel
theorem dX9_beat_19 : decode cX9_beat 19 = .ok (.invokestatic 90, 3) := by decide +kernel
theorem dX9_beat_22 : decode cX9_beat 22 = .ok (.ifCond .eq 14, 3) := by decide +kernel
theorem dX9_beat_25 : decode cX9_beat 25 = .ok (.aload_n 0, 1) := by decide +kernel
theorem dX9_beat_26 : decode cX9_beat 26 = .ok (.getfield 10, 3) := by decide +kernel
theorem dX9_beat_29 : decode cX9_beat 29 = .ok (.iload_n 2, 1) := by decide +kernel
theorem dX9_beat_30 : decode cX9_beat 30 = .ok (.invokevirtual 132, 3) := by decide +kernel
theorem dX9_beat_33 : decode cX9_beat 33 = .ok (.ifCond .ne 5, 3) := by decide +kernel
theorem dX9_beat_36 : decode cX9_beat 36 = .ok (.iconst (-1), 1) := by decide +kernel
theorem dX9_beat_37 : decode cX9_beat 37 = .ok (.ireturn, 1) := by decide +kernel
theorem dX9_beat_38 : decode cX9_beat 38 = .ok (.aload_n 0, 1) := by decide +kernel
theorem dX9_beat_39 : decode cX9_beat 39 = .ok (.getfield 10, 3) := by decide +kernel
theorem dX9_beat_42 : decode cX9_beat 42 = .ok (.iload_n 2, 1) := by decide +kernel
theorem dX9_beat_43 : decode cX9_beat 43 = .ok (.invokevirtual 135, 3) := by decide +kernel
theorem dX9_beat_46 : decode cX9_beat 46 = .ok (.aload_n 0, 1) := by decide +kernel
theorem dX9_beat_47 : decode cX9_beat 47 = .ok (.getfield 68, 3) := by decide +kernel
theorem dX9_beat_50 : decode cX9_beat 50 = .ok (.aload_n 0, 1) := by decide +kernel
theorem dX9_beat_51 : decode cX9_beat 51 = .ok (.getfield 10, 3) := by decide +kernel
theorem dX9_beat_54 : decode cX9_beat 54 = .ok (.invokevirtual 153, 3) := by decide +kernel
theorem dX9_beat_57 : decode cX9_beat 57 = .ok (.aload_n 0, 1) := by decide +kernel
theorem dX9_beat_58 : decode cX9_beat 58 = .ok (.getfield 68, 3) := by decide +kernel
theorem dX9_beat_61 : decode cX9_beat 61 = .ok (.getfield 154, 3) := by decide +kernel
theorem dX9_beat_64 : decode cX9_beat 64 = .ok (.istore_n 3, 1) := by decide +kernel
theorem dX9_beat_65 : decode cX9_beat 65 = .ok (.aload_n 0, 1) := by decide +kernel
theorem dX9_beat_66 : decode cX9_beat 66 = .ok (.getfield 10, 3) := by decide +kernel
theorem dX9_beat_69 : decode cX9_beat 69 = .ok (.invokevirtual 142, 3) := by decide +kernel
theorem dX9_beat_72 : decode cX9_beat 72 = .ok (.ifCond .eq 27, 3) := by decide +kernel
theorem dX9_beat_75 : decode cX9_beat 75 = .ok (.aload_n 0, 1) := by decide +kernel
theorem dX9_beat_76 : decode cX9_beat 76 = .ok (.getfield 38, 3) := by decide +kernel
theorem dX9_beat_79 : decode cX9_beat 79 = .ok (.iload_n 1, 1) := by decide +kernel
theorem dX9_beat_80 : decode cX9_beat 80 = .ok (.aaload, 1) := by decide +kernel
theorem dX9_beat_81 : decode cX9_beat 81 = .ok (.astore 4, 2) := by decide +kernel
theorem dX9_beat_83 : decode cX9_beat 83 = .ok (.aload_n 0, 1) := by decide +kernel
theorem dX9_beat_84 : decode cX9_beat 84 = .ok (.getfield 38, 3) := by decide +kernel
theorem dX9_beat_87 : decode cX9_beat 87 = .ok (.iload_n 1, 1) := by decide +kernel
theorem dX9_beat_88 : decode cX9_beat 88 = .ok (.aload_n 0, 1) := by decide +kernel
theorem dX9_beat_89 : decode cX9_beat 89 = .ok (.getfield 68, 3) := by decide +kernel
theorem dX9_beat_92 : decode cX9_beat 92 = .ok (.aastore, 1) := by decide +kernel
theorem dX9_beat_93 : decode cX9_beat 93 = .ok (.aload_n 0, 1) := by decide +kernel
theorem dX9_beat_94 : decode cX9_beat 94 = .ok (.aload 4, 2) := by decide +kernel
theorem dX9_beat_96 : decode cX9_beat 96 = .ok (.putfield 68, 3) := by decide +kernel
theorem dX9_beat_99 : decode cX9_beat 99 = .ok (.aload_n 0, 1) := by decide +kernel
theorem dX9_beat_100 : decode cX9_beat 100 = .ok (.getfield 10, 3) := by decide +kernel
theorem dX9_beat_103 : decode cX9_beat 103 = .ok (.iload_n 3, 1) := by decide +kernel
theorem dX9_beat_104 : decode cX9_beat 104 = .ok (.invokevirtual 149, 3) := by decide +kernel
theorem dX9_beat_107 : decode cX9_beat 107 = .ok (.ireturn, 1) := by decide +kernel
theorem dX9_pleas_0 : decode cX9_pleas 0 = .ok (.iload_n 1, 1) := by decide +kernel
theorem dX9_pleas_1 : decode cX9_pleas 1 = .ok (.iconst 1, 1) := by decide +kernel
theorem dX9_pleas_2 : decode cX9_pleas 2 = .ok (.bipush 120, 2) := by decide +kernel
theorem dX9_pleas_4 : decode cX9_pleas 4 = .ok (.invokestatic 90, 3) := by decide +kernel
theorem dX9_pleas_7 : decode cX9_pleas 7 = .ok (.ifCond .eq 14, 3) := by decide +kernel
theorem dX9_pleas_10 : decode cX9_pleas 10 = .ok (.aload_n 0, 1) := by decide +kernel
theorem dX9_pleas_11 : decode cX9_pleas 11 = .ok (.getfield 10, 3) := by decide +kernel
theorem dX9_pleas_14 : decode cX9_pleas 14 = .ok (.iload_n 1, 1) := by decide +kernel
theorem dX9_pleas_15 : decode cX9_pleas 15 = .ok (.invokevirtual 132, 3) := by decide +kernel
theorem dX9_pleas_18 : decode cX9_pleas 18 = .ok (.ifCond .ne 5, 3) := by decide +kernel
theorem dX9_pleas_21 : decode cX9_pleas 21 = .ok (.iconst (-1), 1) := by decide +kernel
theorem dX9_pleas_22 : decode cX9_pleas 22 = .ok (.ireturn, 1) := by decide +kernel
theorem dX9_pleas_23 : decode cX9_pleas 23 = .ok (.aload_n 0, 1) := by decide +kernel
theorem dX9_pleas_24 : decode cX9_pleas 24 = .ok (.getfield 10, 3) := by decide +kernel
theorem dX9_pleas_27 : decode cX9_pleas 27 = .ok (.iload_n 1, 1) := by decide +kernel
theorem dX9_pleas_28 : decode cX9_pleas 28 = .ok (.invokevirtual 135, 3) := by decide +kernel
theorem dX9_pleas_31 : decode cX9_pleas 31 = .ok (.aload_n 0, 1) := by decide +kernel
theorem dX9_pleas_32 : decode cX9_pleas 32 = .ok (.getfield 52, 3) := by decide +kernel
theorem dX9_pleas_35 : decode cX9_pleas 35 = .ok (.aload_n 0, 1) := by decide +kernel
theorem dX9_pleas_36 : decode cX9_pleas 36 = .ok (.getfield 10, 3) := by decide +kernel
theorem dX9_pleas_39 : decode cX9_pleas 39 = .ok (.aload_n 0, 1) := by decide +kernel
theorem dX9_pleas_40 : decode cX9_pleas 40 = .ok (.getfield 19, 3) := by decide +kernel
theorem dX9_pleas_43 : decode cX9_pleas 43 = .ok (.invokevirtual 155, 3) := by decide +kernel
theorem dX9_pleas_46 : decode cX9_pleas 46 = .ok (.aload_n 0, 1) := by decide +kernel
theorem dX9_pleas_47 : decode cX9_pleas 47 = .ok (.getfield 10, 3) := by decide +kernel
theorem dX9_pleas_50 : decode cX9_pleas 50 = .ok (.invokevirtual 142, 3) := by decide +kernel
theorem dX9_pleas_53 : decode cX9_pleas 53 = .ok (.ifCond .eq 18, 3) := by decide +kernel
theorem dX9_pleas_56 : decode cX9_pleas 56 = .ok (.aload_n 0, 1) := by decide +kernel
theorem dX9_pleas_57 : decode cX9_pleas 57 = .ok (.getfield 52, 3) := by decide +kernel
theorem dX9_pleas_60 : decode cX9_pleas 60 = .ok (.aload_n 0, 1) := by decide +kernel
theorem dX9_pleas_61 : decode cX9_pleas 61 = .ok (.getfield 26, 3) := by decide +kernel
theorem dX9_pleas_64 : decode cX9_pleas 64 = .ok (.aload_n 0, 1) := by decide +kernel
theorem dX9_pleas_65 : decode cX9_pleas 65 = .ok (.getfield 19, 3) := by decide +kernel
theorem dX9_pleas_68 : decode cX9_pleas 68 = .ok (.invokevirtual 158, 3) := by decide +kernel
theorem dX9_pleas_71 : decode cX9_pleas 71 = .ok (.aload_n 0, 1) := by decide +kernel
theorem dX9_pleas_72 : decode cX9_pleas 72 = .ok (.getfield 10, 3) := by decide +kernel
theorem dX9_pleas_75 : decode cX9_pleas 75 = .ok (.aload_n 0, 1) := by decide +kernel
theorem dX9_pleas_76 : decode cX9_pleas 76 = .ok (.getfield 52, 3) := by decide +kernel
theorem dX9_pleas_79 : decode cX9_pleas 79 = .ok (.getfield 162, 3) := by decide +kernel
theorem dX9_pleas_82 : decode cX9_pleas 82 = .ok (.invokevirtual 149, 3) := by decide +kernel
theorem dX9_pleas_85 : decode cX9_pleas 85 = .ok (.ireturn, 1) := by decide +kernel
theorem dX9_hours_0 : decode cX9_hours 0 = .ok (.iload_n 1, 1) := by decide +kernel
theorem dX9_hours_1 : decode cX9_hours 1 = .ok (.invokestatic 165, 3) := by decide +kernel
theorem dX9_hours_4 : decode cX9_hours 4 = .ok (.ifCond .ne 5, 3) := by decide +kernel
theorem dX9_hours_7 : decode cX9_hours 7 = .ok (.iconst (-1), 1) := by decide +kernel
theorem dX9_hours_8 : decode cX9_hours 8 = .ok (.ireturn, 1) := by decide +kernel
theorem dX9_hours_9 : decode cX9_hours 9 = .ok (.iconst 0, 1) := by decide +kernel
theorem dX9_hours_10 : decode cX9_hours 10 = .ok (.istore_n 2, 1) := by decide +kernel
theorem dX9_hours_11 : decode cX9_hours 11 = .ok (.iconst 0, 1) := by decide +kernel
theorem dX9_hours_12 : decode cX9_hours 12 = .ok (.istore_n 3, 1) := by decide +kernel
theorem dX9_hours_13 : decode cX9_hours 13 = .ok (.iload_n 3, 1) := by decide +kernel
theorem dX9_hours_14 : decode cX9_hours 14 = .ok (.iload_n 1, 1) := by decide +kernel
theorem dX9_hours_15 : decode cX9_hours 15 = .ok (.if_icmp .ge 30, 3) := by decide +kernel
theorem dX9_hours_18 : decode cX9_hours 18 = .ok (.aload_n 0, 1) := by decide +kernel
theorem dX9_hours_19 : decode cX9_hours 19 = .ok (.aload_n 0, 1) := by decide +kernel
theorem dX9_hours_20 : decode cX9_hours 20 = .ok (.getfield 26, 3) := by decide +kernel
theorem dX9_hours_23 : decode cX9_hours 23 = .ok (.invokevirtual 168, 3) := by decide +kernel
theorem dX9_hours_26 : decode cX9_hours 26 = .ok (.ifCond .eq 19, 3) := by decide +kernel
theorem dX9_hours_29 : decode cX9_hours 29 = .ok (.iload_n 2, 1) := by decide +kernel
theorem dX9_hours_30 : decode cX9_hours 30 = .ok (.aload_n 0, 1) := by decide +kernel
theorem dX9_hours_31 : decode cX9_hours 31 = .ok (.getfield 45, 3) := by decide +kernel
theorem dX9_hours_34 : decode cX9_hours 34 = .ok (.getfield 172, 3) := by decide +kernel
theorem dX9_hours_37 : decode cX9_hours 37 = .ok (.iadd, 1) := by decide +kernel
theorem dX9_hours_38 : decode cX9_hours 38 = .ok (.istore_n 2, 1) := by decide +kernel
theorem dX9_hours_39 : decode cX9_hours 39 = .ok (.iinc 3 1, 3) := by decide +kernel
theorem dX9_hours_42 : decode cX9_hours 42 = .ok (.goto (-29), 3) := by decide +kernel
theorem dX9_hours_45 : decode cX9_hours 45 = .ok (.iload_n 2, 1) := by decide +kernel
theorem dX9_hours_46 : decode cX9_hours 46 = .ok (.ireturn, 1) := by decide +kernel
theorem dX9_tried_0 : decode cX9_tried 0 = .ok (.iload_n 1, 1) := by decide +kernel
theorem dX9_tried_1 : decode cX9_tried 1 = .ok (.invokestatic 165, 3) := by decide +kernel
theorem dX9_tried_4 : decode cX9_tried 4 = .ok (.ifCond .eq 11, 3) := by decide +kernel
theorem dX9_tried_7 : decode cX9_tried 7 = .ok (.aload_n 0, 1) := by decide +kernel
theorem dX9_tried_8 : decode cX9_tried 8 = .ok (.iload_n 2, 1) := by decide +kernel
theorem dX9_tried_9 : decode cX9_tried 9 = .ok (.invokevirtual 175, 3) := by decide +kernel
theorem dX9_tried_12 : decode cX9_tried 12 = .ok (.ifCond .ne 5, 3) := by decide +kernel
theorem dX9_tried_15 : decode cX9_tried 15 = .ok (.iconst (-1), 1) := by decide +kernel
theorem dX9_tried_16 : decode cX9_tried 16 = .ok (.ireturn, 1) := by decide +kernel
theorem dX9_tried_17 : decode cX9_tried 17 = .ok (.iconst 0, 1) := by decide +kernel
theorem dX9_tried_18 : decode cX9_tried 18 = .ok (.istore_n 3, 1) := by decide +kernel
theorem dX9_tried_19 : decode cX9_tried 19 = .ok (.iconst 0, 1) := by decide +kernel
theorem dX9_tried_20 : decode cX9_tried 20 = .ok (.istore 4, 2) := by decide +kernel
theorem dX9_tried_22 : decode cX9_tried 22 = .ok (.aload_n 0, 1) := by decide +kernel
theorem dX9_tried_23 : decode cX9_tried 23 = .ok (.getfield 30, 3) := by decide +kernel
theorem dX9_tried_26 : decode cX9_tried 26 = .ok (.aload_n 0, 1) := by decide +kernel
theorem dX9_tried_27 : decode cX9_tried 27 = .ok (.getfield 26, 3) := by decide +kernel
theorem dX9_tried_30 : decode cX9_tried 30 = .ok (.invokevirtual 178, 3) := by decide +kernel
theorem dX9_tried_33 : decode cX9_tried 33 = .ok (.iconst 0, 1) := by decide +kernel
theorem dX9_tried_34 : decode cX9_tried 34 = .ok (.istore 5, 2) := by decide +kernel
theorem dX9_tried_36 : decode cX9_tried 36 = .ok (.iload 5, 2) := by decide +kernel
theorem dX9_tried_38 : decode cX9_tried 38 = .ok (.iload_n 1, 1) := by decide +kernel
theorem dX9_tried_39 : decode cX9_tried 39 = .ok (.if_icmp .ge 42, 3) := by decide +kernel
theorem dX9_tried_42 : decode cX9_tried 42 = .ok (.aload_n 0, 1) := by decide +kernel
theorem dX9_tried_43 : decode cX9_tried 43 = .ok (.aload_n 0, 1) := by decide +kernel
theorem dX9_tried_44 : decode cX9_tried 44 = .ok (.getfield 30, 3) := by decide +kernel
theorem dX9_tried_47 : decode cX9_tried 47 = .ok (.invokevirtual 168, 3) := by decide +kernel
theorem dX9_tried_50 : decode cX9_tried 50 = .ok (.ifCond .eq 31, 3) := by decide +kernel
theorem dX9_tried_53 : decode cX9_tried 53 = .ok (.iload_n 3, 1) := by decide +kernel
theorem dX9_tried_54 : decode cX9_tried 54 = .ok (.aload_n 0, 1) := by decide +kernel
theorem dX9_tried_55 : decode cX9_tried 55 = .ok (.getfield 45, 3) := by decide +kernel
theorem dX9_tried_58 : decode cX9_tried 58 = .ok (.getfield 172, 3) := by decide +kernel
theorem dX9_tried_61 : decode cX9_tried 61 = .ok (.iadd, 1) := by decide +kernel
theorem dX9_tried_62 : decode cX9_tried 62 = .ok (.istore_n 3, 1) := by decide +kernel
theorem dX9_tried_63 : decode cX9_tried 63 = .ok (.iload 4, 2) := by decide +kernel
theorem dX9_tried_65 : decode cX9_tried 65 = .ok (.aload_n 0, 1) := by decide +kernel
theorem dX9_tried_66 : decode cX9_tried 66 = .ok (.getfield 45, 3) := by decide +kernel
theorem dX9_tried_69 : decode cX9_tried 69 = .ok (.getfield 182, 3) := by decide +kernel
theorem dX9_tried_72 : decode cX9_tried 72 = .ok (.iadd, 1) := by decide +kernel
theorem dX9_tried_73 : decode cX9_tried 73 = .ok (.istore 4, 2) := by decide +kernel
theorem dX9_tried_75 : decode cX9_tried 75 = .ok (.iinc 5 1, 3) := by decide +kernel
theorem dX9_tried_78 : decode cX9_tried 78 = .ok (.goto (-42), 3) := by decide +kernel
theorem dX9_tried_81 : decode cX9_tried 81 = .ok (.iload_n 2, 1) := by decide +kernel
theorem dX9_tried_82 : decode cX9_tried 82 = .ok (.ifCond .ne 5, 3) := by decide +kernel
theorem dX9_tried_85 : decode cX9_tried 85 = .ok (.iload_n 3, 1) := by decide +kernel
theorem dX9_tried_86 : decode cX9_tried 86 = .ok (.ireturn, 1) := by decide +kernel
theorem dX9_tried_87 : decode cX9_tried 87 = .ok (.iload_n 2, 1) := by decide +kernel
theorem dX9_tried_88 : decode cX9_tried 88 = .ok (.iconst 1, 1) := by decide +kernel
theorem dX9_tried_89 : decode cX9_tried 89 = .ok (.if_icmp .ne 6, 3) := by decide +kernel
theorem dX9_tried_92 : decode cX9_tried 92 = .ok (.iload 4, 2) := by decide +kernel
theorem dX9_tried_94 : decode cX9_tried 94 = .ok (.ireturn, 1) := by decide +kernel
theorem dX9_tried_95 : decode cX9_tried 95 = .ok (.iload_n 2, 1) := by decide +kernel
theorem dX9_tried_96 : decode cX9_tried 96 = .ok (.iconst 2, 1) := by decide +kernel
theorem dX9_tried_97 : decode cX9_tried 97 = .ok (.if_icmp .ne 19, 3) := by decide +kernel
theorem dX9_tried_100 : decode cX9_tried 100 = .ok (.aload_n 0, 1) := by decide +kernel
theorem dX9_tried_101 : decode cX9_tried 101 = .ok (.getfield 30, 3) := by decide +kernel
theorem dX9_tried_104 : decode cX9_tried 104 = .ok (.getfield 185, 3) := by decide +kernel
theorem dX9_tried_107 : decode cX9_tried 107 = .ok (.aload_n 0, 1) := by decide +kernel
theorem dX9_tried_108 : decode cX9_tried 108 = .ok (.getfield 26, 3) := by decide +kernel
theorem dX9_tried_111 : decode cX9_tried 111 = .ok (.getfield 185, 3) := by decide +kernel
theorem dX9_tried_114 : decode cX9_tried 114 = .ok (.isub, 1) := by decide +kernel
theorem dX9_tried_115 : decode cX9_tried 115 = .ok (.ireturn, 1) := by decide +kernel
theorem dX9_tried_116 : decode cX9_tried 116 = .ok (.iload_n 2, 1) := by decide +kernel
theorem dX9_tried_117 : decode cX9_tried 117 = .ok (.bipush 20, 2) := by decide +kernel
theorem dX9_tried_119 : decode cX9_tried 119 = .ok (.if_icmp .ge 18, 3) := by decide +kernel
theorem dX9_tried_122 : decode cX9_tried 122 = .ok (.aload_n 0, 1) := by decide +kernel
theorem dX9_tried_123 : decode cX9_tried 123 = .ok (.getfield 30, 3) := by decide +kernel
theorem dX9_tried_126 : decode cX9_tried 126 = .ok (.getfield 115, 3) := by decide +kernel
theorem dX9_tried_129 : decode cX9_tried 129 = .ok (.iload_n 2, 1) := by decide +kernel
theorem dX9_tried_130 : decode cX9_tried 130 = .ok (.bipush 10, 2) := by decide +kernel
theorem dX9_tried_132 : decode cX9_tried 132 = .ok (.isub, 1) := by decide +kernel
theorem dX9_tried_133 : decode cX9_tried 133 = .ok (.invokestatic 188, 3) := by decide +kernel
theorem dX9_tried_136 : decode cX9_tried 136 = .ok (.ireturn, 1) := by decide +kernel
theorem dX9_tried_137 : decode cX9_tried 137 = .ok (.iload_n 2, 1) := by decide +kernel
theorem dX9_tried_138 : decode cX9_tried 138 = .ok (.bipush 30, 2) := by decide +kernel
theorem dX9_tried_140 : decode cX9_tried 140 = .ok (.if_icmp .ge 20, 3) := by decide +kernel
theorem dX9_tried_143 : decode cX9_tried 143 = .ok (.aload_n 0, 1) := by decide +kernel
theorem dX9_tried_144 : decode cX9_tried 144 = .ok (.getfield 30, 3) := by decide +kernel
theorem dX9_tried_147 : decode cX9_tried 147 = .ok (.getfield 118, 3) := by decide +kernel
theorem dX9_tried_150 : decode cX9_tried 150 = .ok (.iload_n 2, 1) := by decide +kernel
theorem dX9_tried_151 : decode cX9_tried 151 = .ok (.bipush 20, 2) := by decide +kernel
theorem dX9_tried_153 : decode cX9_tried 153 = .ok (.isub, 1) := by decide +kernel
theorem dX9_tried_154 : decode cX9_tried 154 = .ok (.invokestatic 188, 3) := by decide +kernel
theorem dX9_tried_157 : decode cX9_tried 157 = .ok (.goto 17, 3) := by decide +kernel
theorem dX9_tried_160 : decode cX9_tried 160 = .ok (.aload_n 0, 1) := by decide +kernel
theorem dX9_tried_161 : decode cX9_tried 161 = .ok (.getfield 30, 3) := by decide +kernel
theorem dX9_tried_164 : decode cX9_tried 164 = .ok (.getfield 192, 3) := by decide +kernel
theorem dX9_tried_167 : decode cX9_tried 167 = .ok (.iload_n 2, 1) := by decide +kernel
theorem dX9_tried_168 : decode cX9_tried 168 = .ok (.bipush 30, 2) := by decide +kernel
theorem dX9_tried_170 : decode cX9_tried 170 = .ok (.isub, 1) := by decide +kernel
theorem dX9_tried_171 : decode cX9_tried 171 = .ok (.invokestatic 188, 3) := by decide +kernel
theorem dX9_tried_174 : decode cX9_tried 174 = .ok (.ireturn, 1) := by decide +kernel
theorem dX9_canBeTried_0 : decode cX9_canBeTried 0 = .ok (.iload_n 1, 1) := by decide +kernel
theorem dX9_canBeTried_1 : decode cX9_canBeTried 1 = .ok (.bipush 30, 2) := by decide +kernel
theorem dX9_canBeTried_3 : decode cX9_canBeTried 3 = .ok (.bipush 45, 2) := by decide +kernel
theorem dX9_canBeTried_5 : decode cX9_canBeTried 5 = .ok (.invokestatic 90, 3) := by decide +kernel
theorem dX9_canBeTried_8 : decode cX9_canBeTried 8 = .ok (.ifCond .eq 15, 3) := by decide +kernel
theorem dX9_canBeTried_11 : decode cX9_canBeTried 11 = .ok (.aload_n 0, 1) := by decide +kernel
theorem dX9_canBeTried_12 : decode cX9_canBeTried 12 = .ok (.getfield 19, 3) := by decide +kernel
theorem dX9_canBeTried_15 : decode cX9_canBeTried 15 = .ok (.iload_n 1, 1) := by decide +kernel
theorem dX9_canBeTried_16 : decode cX9_canBeTried 16 = .ok (.bipush 30, 2) := by decide +kernel
theorem dX9_canBeTried_18 : decode cX9_canBeTried 18 = .ok (.isub, 1) := by decide +kernel
theorem dX9_canBeTried_19 : decode cX9_canBeTried 19 = .ok (.invokevirtual 108, 3) := by decide +kernel
theorem dX9_canBeTried_22 : decode cX9_canBeTried 22 = .ok (.ireturn, 1) := by decide +kernel
theorem dX9_canBeTried_23 : decode cX9_canBeTried 23 = .ok (.iload_n 1, 1) := by decide +kernel
theorem dX9_canBeTried_24 : decode cX9_canBeTried 24 = .ok (.bipush 20, 2) := by decide +kernel
theorem dX9_canBeTried_26 : decode cX9_canBeTried 26 = .ok (.bipush 27, 2) := by decide +kernel
theorem dX9_canBeTried_28 : decode cX9_canBeTried 28 = .ok (.invokestatic 90, 3) := by decide +kernel
theorem dX9_canBeTried_31 : decode cX9_canBeTried 31 = .ok (.ifCond .eq 15, 3) := by decide +kernel
theorem dX9_canBeTried_34 : decode cX9_canBeTried 34 = .ok (.aload_n 0, 1) := by decide +kernel
theorem dX9_canBeTried_35 : decode cX9_canBeTried 35 = .ok (.getfield 26, 3) := by decide +kernel
theorem dX9_canBeTried_38 : decode cX9_canBeTried 38 = .ok (.iload_n 1, 1) := by decide +kernel
theorem dX9_canBeTried_39 : decode cX9_canBeTried 39 = .ok (.bipush 20, 2) := by decide +kernel
theorem dX9_canBeTried_41 : decode cX9_canBeTried 41 = .ok (.isub, 1) := by decide +kernel
theorem dX9_canBeTried_42 : decode cX9_canBeTried 42 = .ok (.invokevirtual 195, 3) := by decide +kernel
theorem dX9_canBeTried_45 : decode cX9_canBeTried 45 = .ok (.ireturn, 1) := by decide +kernel
theorem dX9_canBeTried_46 : decode cX9_canBeTried 46 = .ok (.iload_n 1, 1) := by decide +kernel
theorem dX9_canBeTried_47 : decode cX9_canBeTried 47 = .ok (.iconst 0, 1) := by decide +kernel
theorem dX9_canBeTried_48 : decode cX9_canBeTried 48 = .ok (.iconst 2, 1) := by decide +kernel
theorem dX9_canBeTried_49 : decode cX9_canBeTried 49 = .ok (.invokestatic 90, 3) := by decide +kernel
theorem dX9_canBeTried_52 : decode cX9_canBeTried 52 = .ok (.ifCond .ne 28, 3) := by decide +kernel
theorem dX9_canBeTried_55 : decode cX9_canBeTried 55 = .ok (.iload_n 1, 1) := by decide +kernel
theorem dX9_canBeTried_56 : decode cX9_canBeTried 56 = .ok (.bipush 10, 2) := by decide +kernel
theorem dX9_canBeTried_58 : decode cX9_canBeTried 58 = .ok (.bipush 17, 2) := by decide +kernel
theorem dX9_canBeTried_60 : decode cX9_canBeTried 60 = .ok (.invokestatic 90, 3) := by decide +kernel
theorem dX9_canBeTried_63 : decode cX9_canBeTried 63 = .ok (.ifCond .eq 21, 3) := by decide +kernel
theorem dX9_canBeTried_66 : decode cX9_canBeTried 66 = .ok (.aload_n 0, 1) := by decide +kernel
theorem dX9_canBeTried_67 : decode cX9_canBeTried 67 = .ok (.getfield 26, 3) := by decide +kernel
theorem dX9_canBeTried_70 : decode cX9_canBeTried 70 = .ok (.iload_n 1, 1) := by decide +kernel
theorem dX9_canBeTried_71 : decode cX9_canBeTried 71 = .ok (.bipush 10, 2) := by decide +kernel
theorem dX9_canBeTried_73 : decode cX9_canBeTried 73 = .ok (.isub, 1) := by decide +kernel
theorem dX9_canBeTried_74 : decode cX9_canBeTried 74 = .ok (.invokevirtual 195, 3) := by decide +kernel
theorem dX9_canBeTried_77 : decode cX9_canBeTried 77 = .ok (.ifCond .eq 7, 3) := by decide +kernel
theorem dX9_canBeTried_80 : decode cX9_canBeTried 80 = .ok (.iconst 1, 1) := by decide +kernel
theorem dX9_canBeTried_81 : decode cX9_canBeTried 81 = .ok (.goto 4, 3) := by decide +kernel
theorem dX9_canBeTried_84 : decode cX9_canBeTried 84 = .ok (.iconst 0, 1) := by decide +kernel
theorem dX9_canBeTried_85 : decode cX9_canBeTried 85 = .ok (.ireturn, 1) := by decide +kernel
theorem dX9_alone_0 : decode cX9_alone 0 = .ok (.aload_n 0, 1) := by decide +kernel
theorem dX9_alone_1 : decode cX9_alone 1 = .ok (.getfield 19, 3) := by decide +kernel
theorem dX9_alone_4 : decode cX9_alone 4 = .ok (.iload_n 1, 1) := by decide +kernel
theorem dX9_alone_5 : decode cX9_alone 5 = .ok (.invokevirtual 108, 3) := by decide +kernel
theorem dX9_alone_8 : decode cX9_alone 8 = .ok (.ifCond .eq 10, 3) := by decide +kernel
theorem dX9_alone_11 : decode cX9_alone 11 = .ok (.iload_n 2, 1) := by decide +kernel
theorem dX9_alone_12 : decode cX9_alone 12 = .ok (.invokestatic 165, 3) := by decide +kernel
theorem dX9_alone_15 : decode cX9_alone 15 = .ok (.ifCond .ne 5, 3) := by decide +kernel
theorem dX9_alone_18 : decode cX9_alone 18 = .ok (.iconst (-1), 1) := by decide +kernel
theorem dX9_alone_19 : decode cX9_alone 19 = .ok (.ireturn, 1) := by decide +kernel
theorem dX9_alone_20 : decode cX9_alone 20 = .ok (.iconst 0, 1) := by decide +kernel
theorem dX9_alone_21 : decode cX9_alone 21 = .ok (.istore_n 3, 1) := by decide +kernel
theorem dX9_alone_22 : decode cX9_alone 22 = .ok (.iconst 0, 1) := by decide +kernel
theorem dX9_alone_23 : decode cX9_alone 23 = .ok (.istore 4, 2) := by decide +kernel
theorem dX9_alone_25 : decode cX9_alone 25 = .ok (.aload_n 0, 1) := by decide +kernel
theorem dX9_alone_26 : decode cX9_alone 26 = .ok (.getfield 30, 3) := by decide +kernel
theorem dX9_alone_29 : decode cX9_alone 29 = .ok (.aload_n 0, 1) := by decide +kernel
theorem dX9_alone_30 : decode cX9_alone 30 = .ok (.getfield 26, 3) := by decide +kernel
theorem dX9_alone_33 : decode cX9_alone 33 = .ok (.invokevirtual 178, 3) := by decide +kernel
theorem dX9_alone_36 : decode cX9_alone 36 = .ok (.iconst 0, 1) := by decide +kernel
theorem dX9_alone_37 : decode cX9_alone 37 = .ok (.istore 5, 2) := by decide +kernel
theorem dX9_alone_39 : decode cX9_alone 39 = .ok (.iload 5, 2) := by decide +kernel
theorem dX9_alone_41 : decode cX9_alone 41 = .ok (.iload_n 2, 1) := by decide +kernel
theorem dX9_alone_42 : decode cX9_alone 42 = .ok (.if_icmp .ge 48, 3) := by decide +kernel
theorem dX9_alone_45 : decode cX9_alone 45 = .ok (.aload_n 0, 1) := by decide +kernel
theorem dX9_alone_46 : decode cX9_alone 46 = .ok (.aload_n 0, 1) := by decide +kernel
theorem dX9_alone_47 : decode cX9_alone 47 = .ok (.getfield 30, 3) := by decide +kernel
theorem dX9_alone_50 : decode cX9_alone 50 = .ok (.invokevirtual 168, 3) := by decide +kernel
theorem dX9_alone_53 : decode cX9_alone 53 = .ok (.ifCond .eq 37, 3) := by decide +kernel
theorem dX9_alone_56 : decode cX9_alone 56 = .ok (.aload_n 0, 1) := by decide +kernel
theorem dX9_alone_57 : decode cX9_alone 57 = .ok (.getfield 30, 3) := by decide +kernel
theorem dX9_alone_60 : decode cX9_alone 60 = .ok (.iload_n 1, 1) := by decide +kernel
theorem dX9_alone_61 : decode cX9_alone 61 = .ok (.invokevirtual 196, 3) := by decide +kernel
theorem dX9_alone_64 : decode cX9_alone 64 = .ok (.ifCond .ne 10, 3) := by decide +kernel
theorem dX9_alone_67 : decode cX9_alone 67 = .ok (.iload 4, 2) := by decide +kernel
theorem dX9_alone_69 : decode cX9_alone 69 = .ok (.iconst 1, 1) := by decide +kernel
theorem dX9_alone_70 : decode cX9_alone 70 = .ok (.iadd, 1) := by decide +kernel
theorem dX9_alone_71 : decode cX9_alone 71 = .ok (.goto 4, 3) := by decide +kernel
theorem dX9_alone_74 : decode cX9_alone 74 = .ok (.iconst 0, 1) := by decide +kernel
theorem dX9_alone_75 : decode cX9_alone 75 = .ok (.istore 4, 2) := by decide +kernel
theorem dX9_alone_77 : decode cX9_alone 77 = .ok (.iload_n 3, 1) := by decide +kernel
theorem dX9_alone_78 : decode cX9_alone 78 = .ok (.iload 4, 2) := by decide +kernel
theorem dX9_alone_80 : decode cX9_alone 80 = .ok (.invokestatic 199, 3) := by decide +kernel
theorem dX9_alone_83 : decode cX9_alone 83 = .ok (.istore_n 3, 1) := by decide +kernel
theorem dX9_alone_84 : decode cX9_alone 84 = .ok (.iinc 5 1, 3) := by decide +kernel
theorem dX9_alone_87 : decode cX9_alone 87 = .ok (.goto (-48), 3) := by decide +kernel
theorem dX9_alone_90 : decode cX9_alone 90 = .ok (.iload_n 3, 1) := by decide +kernel
theorem dX9_alone_91 : decode cX9_alone 91 = .ok (.ireturn, 1) := by decide +kernel
theorem dX9_together_0 : decode cX9_together 0 = .ok (.aload_n 0, 1) := by decide +kernel
theorem dX9_together_1 : decode cX9_together 1 = .ok (.getfield 26, 3) := by decide +kernel
theorem dX9_together_4 : decode cX9_together 4 = .ok (.iload_n 1, 1) := by decide +kernel
theorem dX9_together_5 : decode cX9_together 5 = .ok (.invokevirtual 195, 3) := by decide +kernel
theorem dX9_together_8 : decode cX9_together 8 = .ok (.ifCond .eq 26, 3) := by decide +kernel
theorem dX9_together_11 : decode cX9_together 11 = .ok (.aload_n 0, 1) := by decide +kernel
theorem dX9_together_12 : decode cX9_together 12 = .ok (.getfield 26, 3) := by decide +kernel
theorem dX9_together_15 : decode cX9_together 15 = .ok (.iload_n 2, 1) := by decide +kernel
theorem dX9_together_16 : decode cX9_together 16 = .ok (.invokevirtual 195, 3) := by decide +kernel
theorem dX9_together_19 : decode cX9_together 19 = .ok (.ifCond .eq 15, 3) := by decide +kernel
theorem dX9_together_22 : decode cX9_together 22 = .ok (.iload_n 1, 1) := by decide +kernel
theorem dX9_together_23 : decode cX9_together 23 = .ok (.iload_n 2, 1) := by decide +kernel
theorem dX9_together_24 : decode cX9_together 24 = .ok (.if_icmp .eq 10, 3) := by decide +kernel
theorem dX9_together_27 : decode cX9_together 27 = .ok (.iload_n 3, 1) := by decide +kernel
theorem dX9_together_28 : decode cX9_together 28 = .ok (.invokestatic 165, 3) := by decide +kernel
theorem dX9_together_31 : decode cX9_together 31 = .ok (.ifCond .ne 5, 3) := by decide +kernel
theorem dX9_together_34 : decode cX9_together 34 = .ok (.iconst (-1), 1) := by decide +kernel
theorem dX9_together_35 : decode cX9_together 35 = .ok (.ireturn, 1) := by decide +kernel
theorem dX9_together_36 : decode cX9_together 36 = .ok (.aload_n 0, 1) := by decide +kernel
theorem dX9_together_37 : decode cX9_together 37 = .ok (.getfield 26, 3) := by decide +kernel
theorem dX9_together_40 : decode cX9_together 40 = .ok (.getfield 115, 3) := by decide +kernel
theorem dX9_together_43 : decode cX9_together 43 = .ok (.iload_n 1, 1) := by decide +kernel
theorem dX9_together_44 : decode cX9_together 44 = .ok (.invokestatic 188, 3) := by decide +kernel
theorem dX9_together_47 : decode cX9_together 47 = .ok (.aload_n 0, 1) := by decide +kernel
theorem dX9_together_48 : decode cX9_together 48 = .ok (.getfield 26, 3) := by decide +kernel
theorem dX9_together_51 : decode cX9_together 51 = .ok (.getfield 115, 3) := by decide +kernel
theorem dX9_together_54 : decode cX9_together 54 = .ok (.iload_n 2, 1) := by decide +kernel
theorem dX9_together_55 : decode cX9_together 55 = .ok (.invokestatic 188, 3) := by decide +kernel
theorem dX9_together_58 : decode cX9_together 58 = .ok (.if_icmp .ne 5, 3) := by decide +kernel
theorem dX9_together_61 : decode cX9_together 61 = .ok (.iconst 0, 1) := by decide +kernel
theorem dX9_together_62 : decode cX9_together 62 = .ok (.ireturn, 1) := by decide +kernel
theorem dX9_together_63 : decode cX9_together 63 = .ok (.aload_n 0, 1) := by decide +kernel
theorem dX9_together_64 : decode cX9_together 64 = .ok (.getfield 30, 3) := by decide +kernel
theorem dX9_together_67 : decode cX9_together 67 = .ok (.aload_n 0, 1) := by decide +kernel
theorem dX9_together_68 : decode cX9_together 68 = .ok (.getfield 26, 3) := by decide +kernel
theorem dX9_together_71 : decode cX9_together 71 = .ok (.invokevirtual 178, 3) := by decide +kernel
theorem dX9_together_74 : decode cX9_together 74 = .ok (.iconst 1, 1) := by decide +kernel
theorem dX9_together_75 : decode cX9_together 75 = .ok (.istore 4, 2) := by decide +kernel
theorem dX9_together_77 : decode cX9_together 77 = .ok (.iload 4, 2) := by decide +kernel
theorem dX9_together_79 : decode cX9_together 79 = .ok (.iload_n 3, 1) := by decide +kernel
theorem dX9_together_80 : decode cX9_together 80 = .ok (.if_icmp .gt 48, 3) := by decide +kernel
theorem dX9_together_83 : decode cX9_together 83 = .ok (.aload_n 0, 1) := by decide +kernel
theorem dX9_together_84 : decode cX9_together 84 = .ok (.aload_n 0, 1) := by decide +kernel
theorem dX9_together_85 : decode cX9_together 85 = .ok (.getfield 30, 3) := by decide +kernel
theorem dX9_together_88 : decode cX9_together 88 = .ok (.invokevirtual 168, 3) := by decide +kernel
theorem dX9_together_91 : decode cX9_together 91 = .ok (.ifCond .eq 37, 3) := by decide +kernel
theorem dX9_together_94 : decode cX9_together 94 = .ok (.aload_n 0, 1) := by decide +kernel
theorem dX9_together_95 : decode cX9_together 95 = .ok (.getfield 30, 3) := by decide +kernel
theorem dX9_together_98 : decode cX9_together 98 = .ok (.getfield 115, 3) := by decide +kernel
theorem dX9_together_101 : decode cX9_together 101 = .ok (.iload_n 1, 1) := by decide +kernel
theorem dX9_together_102 : decode cX9_together 102 = .ok (.invokestatic 188, 3) := by decide +kernel
theorem dX9_together_105 : decode cX9_together 105 = .ok (.aload_n 0, 1) := by decide +kernel
theorem dX9_together_106 : decode cX9_together 106 = .ok (.getfield 30, 3) := by decide +kernel
theorem dX9_together_109 : decode cX9_together 109 = .ok (.getfield 115, 3) := by decide +kernel
theorem dX9_together_112 : decode cX9_together 112 = .ok (.iload_n 2, 1) := by decide +kernel
theorem dX9_together_113 : decode cX9_together 113 = .ok (.invokestatic 188, 3) := by decide +kernel
theorem dX9_together_116 : decode cX9_together 116 = .ok (.if_icmp .ne 6, 3) := by decide +kernel
theorem dX9_together_119 : decode cX9_together 119 = .ok (.iload 4, 2) := by decide +kernel
theorem dX9_together_121 : decode cX9_together 121 = .ok (.ireturn, 1) := by decide +kernel
theorem dX9_together_122 : decode cX9_together 122 = .ok (.iinc 4 1, 3) := by decide +kernel
theorem dX9_together_125 : decode cX9_together 125 = .ok (.goto (-48), 3) := by decide +kernel
theorem dX9_together_128 : decode cX9_together 128 = .ok (.bipush (-2), 2) := by decide +kernel
theorem dX9_together_130 : decode cX9_together 130 = .ok (.ireturn, 1) := by decide +kernel
theorem dX9_seen_0 : decode cX9_seen 0 = .ok (.iload_n 1, 1) := by decide +kernel
theorem dX9_seen_1 : decode cX9_seen 1 = .ok (.invokestatic 165, 3) := by decide +kernel
theorem dX9_seen_4 : decode cX9_seen 4 = .ok (.ifCond .ne 5, 3) := by decide +kernel
theorem dX9_seen_7 : decode cX9_seen 7 = .ok (.iconst (-1), 1) := by decide +kernel
theorem dX9_seen_8 : decode cX9_seen 8 = .ok (.ireturn, 1) := by decide +kernel
theorem dX9_seen_9 : decode cX9_seen 9 = .ok (.iconst 0, 1) := by decide +kernel
theorem dX9_seen_10 : decode cX9_seen 10 = .ok (.istore_n 2, 1) := by decide +kernel
theorem dX9_seen_11 : decode cX9_seen 11 = .ok (.aload_n 0, 1) := by decide +kernel
theorem dX9_seen_12 : decode cX9_seen 12 = .ok (.getfield 30, 3) := by decide +kernel
theorem dX9_seen_15 : decode cX9_seen 15 = .ok (.aload_n 0, 1) := by decide +kernel
theorem dX9_seen_16 : decode cX9_seen 16 = .ok (.getfield 26, 3) := by decide +kernel
theorem dX9_seen_19 : decode cX9_seen 19 = .ok (.invokevirtual 178, 3) := by decide +kernel
theorem dX9_seen_22 : decode cX9_seen 22 = .ok (.iconst 0, 1) := by decide +kernel
theorem dX9_seen_23 : decode cX9_seen 23 = .ok (.istore_n 3, 1) := by decide +kernel
theorem dX9_seen_24 : decode cX9_seen 24 = .ok (.iload_n 3, 1) := by decide +kernel
theorem dX9_seen_25 : decode cX9_seen 25 = .ok (.iload_n 1, 1) := by decide +kernel
theorem dX9_seen_26 : decode cX9_seen 26 = .ok (.if_icmp .ge 30, 3) := by decide +kernel
theorem dX9_seen_29 : decode cX9_seen 29 = .ok (.aload_n 0, 1) := by decide +kernel
theorem dX9_seen_30 : decode cX9_seen 30 = .ok (.aload_n 0, 1) := by decide +kernel
theorem dX9_seen_31 : decode cX9_seen 31 = .ok (.getfield 30, 3) := by decide +kernel
theorem dX9_seen_34 : decode cX9_seen 34 = .ok (.invokevirtual 168, 3) := by decide +kernel
theorem dX9_seen_37 : decode cX9_seen 37 = .ok (.ifCond .eq 19, 3) := by decide +kernel
theorem dX9_seen_40 : decode cX9_seen 40 = .ok (.iload_n 2, 1) := by decide +kernel
theorem dX9_seen_41 : decode cX9_seen 41 = .ok (.aload_n 0, 1) := by decide +kernel
theorem dX9_seen_42 : decode cX9_seen 42 = .ok (.getfield 30, 3) := by decide +kernel
theorem dX9_seen_45 : decode cX9_seen 45 = .ok (.invokevirtual 205, 3) := by decide +kernel
theorem dX9_seen_48 : decode cX9_seen 48 = .ok (.ior, 1) := by decide +kernel
theorem dX9_seen_49 : decode cX9_seen 49 = .ok (.istore_n 2, 1) := by decide +kernel
theorem dX9_seen_50 : decode cX9_seen 50 = .ok (.iinc 3 1, 3) := by decide +kernel
theorem dX9_seen_53 : decode cX9_seen 53 = .ok (.goto (-29), 3) := by decide +kernel
theorem dX9_seen_56 : decode cX9_seen 56 = .ok (.iload_n 2, 1) := by decide +kernel
theorem dX9_seen_57 : decode cX9_seen 57 = .ok (.ireturn, 1) := by decide +kernel
theorem dX9_quiet_0 : decode cX9_quiet 0 = .ok (.iload_n 1, 1) := by decide +kernel
theorem dX9_quiet_1 : decode cX9_quiet 1 = .ok (.invokestatic 165, 3) := by decide +kernel
theorem dX9_quiet_4 : decode cX9_quiet 4 = .ok (.ifCond .ne 5, 3) := by decide +kernel
theorem dX9_quiet_7 : decode cX9_quiet 7 = .ok (.iconst (-1), 1) := by decide +kernel
theorem dX9_quiet_8 : decode cX9_quiet 8 = .ok (.ireturn, 1) := by decide +kernel
theorem dX9_quiet_9 : decode cX9_quiet 9 = .ok (.iconst 0, 1) := by decide +kernel
theorem dX9_quiet_10 : decode cX9_quiet 10 = .ok (.istore_n 2, 1) := by decide +kernel
theorem dX9_quiet_11 : decode cX9_quiet 11 = .ok (.iconst 0, 1) := by decide +kernel
theorem dX9_quiet_12 : decode cX9_quiet 12 = .ok (.istore_n 3, 1) := by decide +kernel
theorem dX9_quiet_13 : decode cX9_quiet 13 = .ok (.aload_n 0, 1) := by decide +kernel
theorem dX9_quiet_14 : decode cX9_quiet 14 = .ok (.getfield 30, 3) := by decide +kernel
theorem dX9_quiet_17 : decode cX9_quiet 17 = .ok (.aload_n 0, 1) := by decide +kernel
theorem dX9_quiet_18 : decode cX9_quiet 18 = .ok (.getfield 26, 3) := by decide +kernel
theorem dX9_quiet_21 : decode cX9_quiet 21 = .ok (.invokevirtual 178, 3) := by decide +kernel
theorem dX9_quiet_24 : decode cX9_quiet 24 = .ok (.iconst 0, 1) := by decide +kernel
theorem dX9_quiet_25 : decode cX9_quiet 25 = .ok (.istore 4, 2) := by decide +kernel
theorem dX9_quiet_27 : decode cX9_quiet 27 = .ok (.iload 4, 2) := by decide +kernel
theorem dX9_quiet_29 : decode cX9_quiet 29 = .ok (.iload_n 1, 1) := by decide +kernel
theorem dX9_quiet_30 : decode cX9_quiet 30 = .ok (.if_icmp .ge 44, 3) := by decide +kernel
theorem dX9_quiet_33 : decode cX9_quiet 33 = .ok (.aload_n 0, 1) := by decide +kernel
theorem dX9_quiet_34 : decode cX9_quiet 34 = .ok (.aload_n 0, 1) := by decide +kernel
theorem dX9_quiet_35 : decode cX9_quiet 35 = .ok (.getfield 30, 3) := by decide +kernel
theorem dX9_quiet_38 : decode cX9_quiet 38 = .ok (.invokevirtual 168, 3) := by decide +kernel
theorem dX9_quiet_41 : decode cX9_quiet 41 = .ok (.ifCond .eq 33, 3) := by decide +kernel
theorem dX9_quiet_44 : decode cX9_quiet 44 = .ok (.aload_n 0, 1) := by decide +kernel
theorem dX9_quiet_45 : decode cX9_quiet 45 = .ok (.getfield 45, 3) := by decide +kernel
theorem dX9_quiet_48 : decode cX9_quiet 48 = .ok (.getfield 172, 3) := by decide +kernel
theorem dX9_quiet_51 : decode cX9_quiet 51 = .ok (.ifCond .ne 9, 3) := by decide +kernel
theorem dX9_quiet_54 : decode cX9_quiet 54 = .ok (.iload_n 3, 1) := by decide +kernel
theorem dX9_quiet_55 : decode cX9_quiet 55 = .ok (.iconst 1, 1) := by decide +kernel
theorem dX9_quiet_56 : decode cX9_quiet 56 = .ok (.iadd, 1) := by decide +kernel
theorem dX9_quiet_57 : decode cX9_quiet 57 = .ok (.goto 4, 3) := by decide +kernel
theorem dX9_quiet_60 : decode cX9_quiet 60 = .ok (.iconst 0, 1) := by decide +kernel
theorem dX9_quiet_61 : decode cX9_quiet 61 = .ok (.istore_n 3, 1) := by decide +kernel
theorem dX9_quiet_62 : decode cX9_quiet 62 = .ok (.iload_n 2, 1) := by decide +kernel
theorem dX9_quiet_63 : decode cX9_quiet 63 = .ok (.iload_n 3, 1) := by decide +kernel
theorem dX9_quiet_64 : decode cX9_quiet 64 = .ok (.invokestatic 199, 3) := by decide +kernel
theorem dX9_quiet_67 : decode cX9_quiet 67 = .ok (.istore_n 2, 1) := by decide +kernel
theorem dX9_quiet_68 : decode cX9_quiet 68 = .ok (.iinc 4 1, 3) := by decide +kernel
theorem dX9_quiet_71 : decode cX9_quiet 71 = .ok (.goto (-44), 3) := by decide +kernel
theorem dX9_quiet_74 : decode cX9_quiet 74 = .ok (.iload_n 2, 1) := by decide +kernel
theorem dX9_quiet_75 : decode cX9_quiet 75 = .ok (.ireturn, 1) := by decide +kernel
theorem dX9_isHours_0 : decode cX9_isHours 0 = .ok (.iload_n 0, 1) := by decide +kernel
theorem dX9_isHours_1 : decode cX9_isHours 1 = .ok (.iconst 1, 1) := by decide +kernel
theorem dX9_isHours_2 : decode cX9_isHours 2 = .ok (.sipush 240, 3) := by decide +kernel
theorem dX9_isHours_5 : decode cX9_isHours 5 = .ok (.invokestatic 90, 3) := by decide +kernel
theorem dX9_isHours_8 : decode cX9_isHours 8 = .ok (.ireturn, 1) := by decide +kernel
theorem dX9_passes_0 : decode cX9_passes 0 = .ok (.aload_n 0, 1) := by decide +kernel
theorem dX9_passes_1 : decode cX9_passes 1 = .ok (.getfield 45, 3) := by decide +kernel
theorem dX9_passes_4 : decode cX9_passes 4 = .ok (.aload_n 1, 1) := by decide +kernel
theorem dX9_passes_5 : decode cX9_passes 5 = .ok (.aload_n 0, 1) := by decide +kernel
theorem dX9_passes_6 : decode cX9_passes 6 = .ok (.getfield 75, 3) := by decide +kernel
theorem dX9_passes_9 : decode cX9_passes 9 = .ok (.aload_n 0, 1) := by decide +kernel
theorem dX9_passes_10 : decode cX9_passes 10 = .ok (.getfield 19, 3) := by decide +kernel
theorem dX9_passes_13 : decode cX9_passes 13 = .ok (.aload_n 0, 1) := by decide +kernel
theorem dX9_passes_14 : decode cX9_passes 14 = .ok (.getfield 38, 3) := by decide +kernel
theorem dX9_passes_17 : decode cX9_passes 17 = .ok (.invokevirtual 209, 3) := by decide +kernel
theorem dX9_passes_20 : decode cX9_passes 20 = .ok (.ireturn, 1) := by decide +kernel
theorem dX9_placeIs_0 : decode cX9_placeIs 0 = .ok (.aload_n 0, 1) := by decide +kernel
theorem dX9_placeIs_1 : decode cX9_placeIs 1 = .ok (.getfield 19, 3) := by decide +kernel
theorem dX9_placeIs_4 : decode cX9_placeIs 4 = .ok (.iload_n 1, 1) := by decide +kernel
theorem dX9_placeIs_5 : decode cX9_placeIs 5 = .ok (.invokevirtual 108, 3) := by decide +kernel
theorem dX9_placeIs_8 : decode cX9_placeIs 8 = .ok (.ifCond .ne 5, 3) := by decide +kernel
theorem dX9_placeIs_11 : decode cX9_placeIs 11 = .ok (.iconst (-1), 1) := by decide +kernel
theorem dX9_placeIs_12 : decode cX9_placeIs 12 = .ok (.ireturn, 1) := by decide +kernel
theorem dX9_placeIs_13 : decode cX9_placeIs 13 = .ok (.iload_n 2, 1) := by decide +kernel
theorem dX9_placeIs_14 : decode cX9_placeIs 14 = .ok (.tableswitch 91 0 4 #[34, 46, 58, 70, 79], 34) := by decide +kernel
theorem dX9_placeIs_48 : decode cX9_placeIs 48 = .ok (.aload_n 0, 1) := by decide +kernel
theorem dX9_placeIs_49 : decode cX9_placeIs 49 = .ok (.getfield 26, 3) := by decide +kernel
theorem dX9_placeIs_52 : decode cX9_placeIs 52 = .ok (.getfield 98, 3) := by decide +kernel
theorem dX9_placeIs_55 : decode cX9_placeIs 55 = .ok (.iload_n 1, 1) := by decide +kernel
theorem dX9_placeIs_56 : decode cX9_placeIs 56 = .ok (.invokestatic 188, 3) := by decide +kernel
theorem dX9_placeIs_59 : decode cX9_placeIs 59 = .ok (.ireturn, 1) := by decide +kernel
theorem dX9_placeIs_60 : decode cX9_placeIs 60 = .ok (.aload_n 0, 1) := by decide +kernel
theorem dX9_placeIs_61 : decode cX9_placeIs 61 = .ok (.getfield 26, 3) := by decide +kernel
theorem dX9_placeIs_64 : decode cX9_placeIs 64 = .ok (.getfield 105, 3) := by decide +kernel
theorem dX9_placeIs_67 : decode cX9_placeIs 67 = .ok (.iload_n 1, 1) := by decide +kernel
theorem dX9_placeIs_68 : decode cX9_placeIs 68 = .ok (.invokestatic 188, 3) := by decide +kernel
theorem dX9_placeIs_71 : decode cX9_placeIs 71 = .ok (.ireturn, 1) := by decide +kernel
theorem dX9_placeIs_72 : decode cX9_placeIs 72 = .ok (.aload_n 0, 1) := by decide +kernel
theorem dX9_placeIs_73 : decode cX9_placeIs 73 = .ok (.getfield 26, 3) := by decide +kernel
theorem dX9_placeIs_76 : decode cX9_placeIs 76 = .ok (.getfield 192, 3) := by decide +kernel
theorem dX9_placeIs_79 : decode cX9_placeIs 79 = .ok (.iload_n 1, 1) := by decide +kernel
theorem dX9_placeIs_80 : decode cX9_placeIs 80 = .ok (.invokestatic 188, 3) := by decide +kernel
theorem dX9_placeIs_83 : decode cX9_placeIs 83 = .ok (.ireturn, 1) := by decide +kernel
theorem dX9_placeIs_84 : decode cX9_placeIs 84 = .ok (.aload_n 0, 1) := by decide +kernel
theorem dX9_placeIs_85 : decode cX9_placeIs 85 = .ok (.getfield 26, 3) := by decide +kernel
theorem dX9_placeIs_88 : decode cX9_placeIs 88 = .ok (.iload_n 1, 1) := by decide +kernel
theorem dX9_placeIs_89 : decode cX9_placeIs 89 = .ok (.invokevirtual 196, 3) := by decide +kernel
theorem dX9_placeIs_92 : decode cX9_placeIs 92 = .ok (.ireturn, 1) := by decide +kernel
theorem dX9_placeIs_93 : decode cX9_placeIs 93 = .ok (.aload_n 0, 1) := by decide +kernel
theorem dX9_placeIs_94 : decode cX9_placeIs 94 = .ok (.getfield 19, 3) := by decide +kernel
theorem dX9_placeIs_97 : decode cX9_placeIs 97 = .ok (.getfield 212, 3) := by decide +kernel
theorem dX9_placeIs_100 : decode cX9_placeIs 100 = .ok (.iload_n 1, 1) := by decide +kernel
theorem dX9_placeIs_101 : decode cX9_placeIs 101 = .ok (.invokestatic 188, 3) := by decide +kernel
theorem dX9_placeIs_104 : decode cX9_placeIs 104 = .ok (.ireturn, 1) := by decide +kernel
theorem dX9_placeIs_105 : decode cX9_placeIs 105 = .ok (.iconst (-1), 1) := by decide +kernel
theorem dX9_placeIs_106 : decode cX9_placeIs 106 = .ok (.ireturn, 1) := by decide +kernel
theorem dX9_constableIs_0 : decode cX9_constableIs 0 = .ok (.aload_n 0, 1) := by decide +kernel
theorem dX9_constableIs_1 : decode cX9_constableIs 1 = .ok (.getfield 26, 3) := by decide +kernel
theorem dX9_constableIs_4 : decode cX9_constableIs 4 = .ok (.iload_n 1, 1) := by decide +kernel
theorem dX9_constableIs_5 : decode cX9_constableIs 5 = .ok (.invokevirtual 195, 3) := by decide +kernel
theorem dX9_constableIs_8 : decode cX9_constableIs 8 = .ok (.ifCond .eq 18, 3) := by decide +kernel
theorem dX9_constableIs_11 : decode cX9_constableIs 11 = .ok (.iload_n 1, 1) := by decide +kernel
theorem dX9_constableIs_12 : decode cX9_constableIs 12 = .ok (.iconst 0, 1) := by decide +kernel
theorem dX9_constableIs_13 : decode cX9_constableIs 13 = .ok (.aload_n 0, 1) := by decide +kernel
theorem dX9_constableIs_14 : decode cX9_constableIs 14 = .ok (.getfield 38, 3) := by decide +kernel
theorem dX9_constableIs_17 : decode cX9_constableIs 17 = .ok (.arraylength, 1) := by decide +kernel
theorem dX9_constableIs_18 : decode cX9_constableIs 18 = .ok (.iconst 1, 1) := by decide +kernel
theorem dX9_constableIs_19 : decode cX9_constableIs 19 = .ok (.isub, 1) := by decide +kernel
theorem dX9_constableIs_20 : decode cX9_constableIs 20 = .ok (.invokestatic 90, 3) := by decide +kernel
theorem dX9_constableIs_23 : decode cX9_constableIs 23 = .ok (.ifCond .ne 5, 3) := by decide +kernel
theorem dX9_constableIs_26 : decode cX9_constableIs 26 = .ok (.iconst (-1), 1) := by decide +kernel
theorem dX9_constableIs_27 : decode cX9_constableIs 27 = .ok (.ireturn, 1) := by decide +kernel
theorem dX9_constableIs_28 : decode cX9_constableIs 28 = .ok (.iload_n 2, 1) := by decide +kernel
theorem dX9_constableIs_29 : decode cX9_constableIs 29 = .ok (.tableswitch 74 0 2 #[27, 39, 51], 27) := by decide +kernel
theorem dX9_constableIs_56 : decode cX9_constableIs 56 = .ok (.aload_n 0, 1) := by decide +kernel
theorem dX9_constableIs_57 : decode cX9_constableIs 57 = .ok (.getfield 26, 3) := by decide +kernel
theorem dX9_constableIs_60 : decode cX9_constableIs 60 = .ok (.getfield 115, 3) := by decide +kernel
theorem dX9_constableIs_63 : decode cX9_constableIs 63 = .ok (.iload_n 1, 1) := by decide +kernel
theorem dX9_constableIs_64 : decode cX9_constableIs 64 = .ok (.invokestatic 188, 3) := by decide +kernel
theorem dX9_constableIs_67 : decode cX9_constableIs 67 = .ok (.ireturn, 1) := by decide +kernel
theorem dX9_constableIs_68 : decode cX9_constableIs 68 = .ok (.aload_n 0, 1) := by decide +kernel
theorem dX9_constableIs_69 : decode cX9_constableIs 69 = .ok (.getfield 26, 3) := by decide +kernel
theorem dX9_constableIs_72 : decode cX9_constableIs 72 = .ok (.getfield 118, 3) := by decide +kernel
theorem dX9_constableIs_75 : decode cX9_constableIs 75 = .ok (.iload_n 1, 1) := by decide +kernel
theorem dX9_constableIs_76 : decode cX9_constableIs 76 = .ok (.invokestatic 188, 3) := by decide +kernel
theorem dX9_constableIs_79 : decode cX9_constableIs 79 = .ok (.ireturn, 1) := by decide +kernel
theorem dX9_constableIs_80 : decode cX9_constableIs 80 = .ok (.aload_n 0, 1) := by decide +kernel
theorem dX9_constableIs_81 : decode cX9_constableIs 81 = .ok (.getfield 38, 3) := by decide +kernel
theorem dX9_constableIs_84 : decode cX9_constableIs 84 = .ok (.iload_n 1, 1) := by decide +kernel
theorem dX9_constableIs_85 : decode cX9_constableIs 85 = .ok (.aaload, 1) := by decide +kernel
theorem dX9_constableIs_86 : decode cX9_constableIs 86 = .ok (.ifnonnull 7, 3) := by decide +kernel
theorem dX9_constableIs_89 : decode cX9_constableIs 89 = .ok (.iconst 0, 1) := by decide +kernel
theorem dX9_constableIs_90 : decode cX9_constableIs 90 = .ok (.goto 12, 3) := by decide +kernel
theorem dX9_constableIs_93 : decode cX9_constableIs 93 = .ok (.aload_n 0, 1) := by decide +kernel
theorem dX9_constableIs_94 : decode cX9_constableIs 94 = .ok (.getfield 38, 3) := by decide +kernel
theorem dX9_constableIs_97 : decode cX9_constableIs 97 = .ok (.iload_n 1, 1) := by decide +kernel
theorem dX9_constableIs_98 : decode cX9_constableIs 98 = .ok (.aaload, 1) := by decide +kernel
theorem dX9_constableIs_99 : decode cX9_constableIs 99 = .ok (.getfield 154, 3) := by decide +kernel
theorem dX9_constableIs_102 : decode cX9_constableIs 102 = .ok (.ireturn, 1) := by decide +kernel
theorem dX9_constableIs_103 : decode cX9_constableIs 103 = .ok (.iconst (-1), 1) := by decide +kernel
theorem dX9_constableIs_104 : decode cX9_constableIs 104 = .ok (.ireturn, 1) := by decide +kernel
theorem dX9_count_0 : decode cX9_count 0 = .ok (.iload_n 1, 1) := by decide +kernel
theorem dX9_count_1 : decode cX9_count 1 = .ok (.tableswitch 123 0 8 #[51, 59, 67, 75, 83, 91, 99, 107, 115], 51) := by decide +kernel
theorem dX9_count_52 : decode cX9_count 52 = .ok (.aload_n 0, 1) := by decide +kernel
theorem dX9_count_53 : decode cX9_count 53 = .ok (.getfield 26, 3) := by decide +kernel
theorem dX9_count_56 : decode cX9_count 56 = .ok (.getfield 215, 3) := by decide +kernel
theorem dX9_count_59 : decode cX9_count 59 = .ok (.ireturn, 1) := by decide +kernel
theorem dX9_count_60 : decode cX9_count 60 = .ok (.aload_n 0, 1) := by decide +kernel
theorem dX9_count_61 : decode cX9_count 61 = .ok (.getfield 26, 3) := by decide +kernel
theorem dX9_count_64 : decode cX9_count 64 = .ok (.getfield 218, 3) := by decide +kernel
theorem dX9_count_67 : decode cX9_count 67 = .ok (.ireturn, 1) := by decide +kernel
theorem dX9_count_68 : decode cX9_count 68 = .ok (.aload_n 0, 1) := by decide +kernel
theorem dX9_count_69 : decode cX9_count 69 = .ok (.getfield 26, 3) := by decide +kernel
theorem dX9_count_72 : decode cX9_count 72 = .ok (.getfield 185, 3) := by decide +kernel
theorem dX9_count_75 : decode cX9_count 75 = .ok (.ireturn, 1) := by decide +kernel
theorem dX9_count_76 : decode cX9_count 76 = .ok (.aload_n 0, 1) := by decide +kernel
theorem dX9_count_77 : decode cX9_count 77 = .ok (.getfield 19, 3) := by decide +kernel
theorem dX9_count_80 : decode cX9_count 80 = .ok (.getfield 94, 3) := by decide +kernel
theorem dX9_count_83 : decode cX9_count 83 = .ok (.ireturn, 1) := by decide +kernel
theorem dX9_count_84 : decode cX9_count 84 = .ok (.aload_n 0, 1) := by decide +kernel
theorem dX9_count_85 : decode cX9_count 85 = .ok (.getfield 26, 3) := by decide +kernel
theorem dX9_count_88 : decode cX9_count 88 = .ok (.getfield 112, 3) := by decide +kernel
theorem dX9_count_91 : decode cX9_count 91 = .ok (.ireturn, 1) := by decide +kernel
theorem dX9_count_92 : decode cX9_count 92 = .ok (.aload_n 0, 1) := by decide +kernel
theorem dX9_count_93 : decode cX9_count 93 = .ok (.getfield 26, 3) := by decide +kernel
theorem dX9_count_96 : decode cX9_count 96 = .ok (.invokevirtual 221, 3) := by decide +kernel
theorem dX9_count_99 : decode cX9_count 99 = .ok (.ireturn, 1) := by decide +kernel
theorem dX9_count_100 : decode cX9_count 100 = .ok (.aload_n 0, 1) := by decide +kernel
theorem dX9_count_101 : decode cX9_count 101 = .ok (.getfield 75, 3) := by decide +kernel
theorem dX9_count_104 : decode cX9_count 104 = .ok (.getfield 146, 3) := by decide +kernel
theorem dX9_count_107 : decode cX9_count 107 = .ok (.ireturn, 1) := by decide +kernel
theorem dX9_count_108 : decode cX9_count 108 = .ok (.aload_n 0, 1) := by decide +kernel
theorem dX9_count_109 : decode cX9_count 109 = .ok (.getfield 10, 3) := by decide +kernel
theorem dX9_count_112 : decode cX9_count 112 = .ok (.getfield 125, 3) := by decide +kernel
theorem dX9_count_115 : decode cX9_count 115 = .ok (.ireturn, 1) := by decide +kernel
theorem dX9_count_116 : decode cX9_count 116 = .ok (.aload_n 0, 1) := by decide +kernel
theorem dX9_count_117 : decode cX9_count 117 = .ok (.getfield 26, 3) := by decide +kernel
theorem dX9_count_120 : decode cX9_count 120 = .ok (.getfield 122, 3) := by decide +kernel
theorem dX9_count_123 : decode cX9_count 123 = .ok (.ireturn, 1) := by decide +kernel
theorem dX9_count_124 : decode cX9_count 124 = .ok (.iconst (-1), 1) := by decide +kernel
theorem dX9_count_125 : decode cX9_count 125 = .ok (.ireturn, 1) := by decide +kernel
theorem dX9_check_0 : decode cX9_check 0 = .ok (.iload_n 1, 1) := by decide +kernel
theorem dX9_check_1 : decode cX9_check 1 = .ok (.iconst 0, 1) := by decide +kernel
theorem dX9_check_2 : decode cX9_check 2 = .ok (.bipush 16, 2) := by decide +kernel
theorem dX9_check_4 : decode cX9_check 4 = .ok (.invokestatic 90, 3) := by decide +kernel
theorem dX9_check_7 : decode cX9_check 7 = .ok (.ifCond .eq 14, 3) := by decide +kernel
theorem dX9_check_10 : decode cX9_check 10 = .ok (.aload_n 0, 1) := by decide +kernel
theorem dX9_check_11 : decode cX9_check 11 = .ok (.getfield 10, 3) := by decide +kernel
theorem dX9_check_14 : decode cX9_check 14 = .ok (.iload_n 1, 1) := by decide +kernel
theorem dX9_check_15 : decode cX9_check 15 = .ok (.invokevirtual 132, 3) := by decide +kernel
theorem dX9_check_18 : decode cX9_check 18 = .ok (.ifCond .ne 6, 3) := by decide +kernel
theorem dX9_check_21 : decode cX9_check 21 = .ok (.bipush (-2), 2) := by decide +kernel
theorem dX9_check_23 : decode cX9_check 23 = .ok (.ireturn, 1) := by decide +kernel
theorem dX9_check_24 : decode cX9_check 24 = .ok (.aload_n 0, 1) := by decide +kernel
theorem dX9_check_25 : decode cX9_check 25 = .ok (.getfield 10, 3) := by decide +kernel
theorem dX9_check_28 : decode cX9_check 28 = .ok (.iload_n 1, 1) := by decide +kernel
theorem dX9_check_29 : decode cX9_check 29 = .ok (.invokevirtual 135, 3) := by decide +kernel
theorem dX9_check_32 : decode cX9_check 32 = .ok (.iconst 0, 1) := by decide +kernel
theorem dX9_check_33 : decode cX9_check 33 = .ok (.istore_n 2, 1) := by decide +kernel
theorem dX9_check_34 : decode cX9_check 34 = .ok (.iload_n 2, 1) := by decide +kernel
theorem dX9_check_35 : decode cX9_check 35 = .ok (.iload_n 1, 1) := by decide +kernel
theorem dX9_check_36 : decode cX9_check 36 = .ok (.if_icmp .ge 52, 3) := by decide +kernel
theorem dX9_check_39 : decode cX9_check 39 = .ok (.aload_n 0, 1) := by decide +kernel
theorem dX9_check_40 : decode cX9_check 40 = .ok (.getfield 19, 3) := by decide +kernel
theorem dX9_check_43 : decode cX9_check 43 = .ok (.iload_n 2, 1) := by decide +kernel
theorem dX9_check_44 : decode cX9_check 44 = .ok (.invokevirtual 108, 3) := by decide +kernel
theorem dX9_check_47 : decode cX9_check 47 = .ok (.ifCond .eq 17, 3) := by decide +kernel
theorem dX9_check_50 : decode cX9_check 50 = .ok (.aload_n 0, 1) := by decide +kernel
theorem dX9_check_51 : decode cX9_check 51 = .ok (.getfield 26, 3) := by decide +kernel
theorem dX9_check_54 : decode cX9_check 54 = .ok (.getfield 98, 3) := by decide +kernel
theorem dX9_check_57 : decode cX9_check 57 = .ok (.iload_n 2, 1) := by decide +kernel
theorem dX9_check_58 : decode cX9_check 58 = .ok (.invokestatic 188, 3) := by decide +kernel
theorem dX9_check_61 : decode cX9_check 61 = .ok (.goto 6, 3) := by decide +kernel
theorem dX9_check_64 : decode cX9_check 64 = .ok (.sipush 255, 3) := by decide +kernel
theorem dX9_check_67 : decode cX9_check 67 = .ok (.istore_n 3, 1) := by decide +kernel
theorem dX9_check_68 : decode cX9_check 68 = .ok (.aload_n 0, 1) := by decide +kernel
theorem dX9_check_69 : decode cX9_check 69 = .ok (.getfield 10, 3) := by decide +kernel
theorem dX9_check_72 : decode cX9_check 72 = .ok (.iload_n 2, 1) := by decide +kernel
theorem dX9_check_73 : decode cX9_check 73 = .ok (.invokevirtual 224, 3) := by decide +kernel
theorem dX9_check_76 : decode cX9_check 76 = .ok (.iload_n 3, 1) := by decide +kernel
theorem dX9_check_77 : decode cX9_check 77 = .ok (.if_icmp .eq 5, 3) := by decide +kernel
theorem dX9_check_80 : decode cX9_check 80 = .ok (.iload_n 2, 1) := by decide +kernel
theorem dX9_check_81 : decode cX9_check 81 = .ok (.ireturn, 1) := by decide +kernel
theorem dX9_check_82 : decode cX9_check 82 = .ok (.iinc 2 1, 3) := by decide +kernel
theorem dX9_check_85 : decode cX9_check 85 = .ok (.goto (-51), 3) := by decide +kernel
theorem dX9_check_88 : decode cX9_check 88 = .ok (.iconst (-1), 1) := by decide +kernel
theorem dX9_check_89 : decode cX9_check 89 = .ok (.ireturn, 1) := by decide +kernel
theorem dX9_keep_0 : decode cX9_keep 0 = .ok (.aload_n 0, 1) := by decide +kernel
theorem dX9_keep_1 : decode cX9_keep 1 = .ok (.getfield 33, 3) := by decide +kernel
theorem dX9_keep_4 : decode cX9_keep 4 = .ok (.aload_n 0, 1) := by decide +kernel
theorem dX9_keep_5 : decode cX9_keep 5 = .ok (.getfield 26, 3) := by decide +kernel
theorem dX9_keep_8 : decode cX9_keep 8 = .ok (.invokevirtual 178, 3) := by decide +kernel
theorem dX9_keep_11 : decode cX9_keep 11 = .ok (.aload_n 0, 1) := by decide +kernel
theorem dX9_keep_12 : decode cX9_keep 12 = .ok (.iconst 1, 1) := by decide +kernel
theorem dX9_keep_13 : decode cX9_keep 13 = .ok (.putfield 86, 3) := by decide +kernel
theorem dX9_keep_16 : decode cX9_keep 16 = .ok (.aload_n 0, 1) := by decide +kernel
theorem dX9_keep_17 : decode cX9_keep 17 = .ok (.getfield 26, 3) := by decide +kernel
theorem dX9_keep_20 : decode cX9_keep 20 = .ok (.getfield 215, 3) := by decide +kernel
theorem dX9_keep_23 : decode cX9_keep 23 = .ok (.ireturn, 1) := by decide +kernel
theorem dX9_undo_0 : decode cX9_undo 0 = .ok (.aload_n 0, 1) := by decide +kernel
theorem dX9_undo_1 : decode cX9_undo 1 = .ok (.getfield 86, 3) := by decide +kernel
theorem dX9_undo_4 : decode cX9_undo 4 = .ok (.ifCond .eq 14, 3) := by decide +kernel
theorem dX9_undo_7 : decode cX9_undo 7 = .ok (.aload_n 0, 1) := by decide +kernel
theorem dX9_undo_8 : decode cX9_undo 8 = .ok (.getfield 26, 3) := by decide +kernel
theorem dX9_undo_11 : decode cX9_undo 11 = .ok (.aload_n 0, 1) := by decide +kernel
theorem dX9_undo_12 : decode cX9_undo 12 = .ok (.getfield 33, 3) := by decide +kernel
theorem dX9_undo_15 : decode cX9_undo 15 = .ok (.invokevirtual 178, 3) := by decide +kernel
theorem dX9_undo_18 : decode cX9_undo 18 = .ok (.aload_n 0, 1) := by decide +kernel
theorem dX9_undo_19 : decode cX9_undo 19 = .ok (.getfield 86, 3) := by decide +kernel
theorem dX9_undo_22 : decode cX9_undo 22 = .ok (.ireturn, 1) := by decide +kernel
theorem dX9_worst_0 : decode cX9_worst 0 = .ok (.iconst (-1), 1) := by decide +kernel
theorem dX9_worst_1 : decode cX9_worst 1 = .ok (.istore_n 1, 1) := by decide +kernel
theorem dX9_worst_2 : decode cX9_worst 2 = .ok (.bipush (-2), 2) := by decide +kernel
theorem dX9_worst_4 : decode cX9_worst 4 = .ok (.istore_n 2, 1) := by decide +kernel
theorem dX9_worst_5 : decode cX9_worst 5 = .ok (.iconst 0, 1) := by decide +kernel
theorem dX9_worst_6 : decode cX9_worst 6 = .ok (.istore_n 3, 1) := by decide +kernel
theorem dX9_worst_7 : decode cX9_worst 7 = .ok (.iload_n 3, 1) := by decide +kernel
theorem dX9_worst_8 : decode cX9_worst 8 = .ok (.bipush 16, 2) := by decide +kernel
theorem dX9_worst_10 : decode cX9_worst 10 = .ok (.if_icmp .ge 56, 3) := by decide +kernel
theorem dX9_worst_13 : decode cX9_worst 13 = .ok (.aload_n 0, 1) := by decide +kernel
theorem dX9_worst_14 : decode cX9_worst 14 = .ok (.getfield 26, 3) := by decide +kernel
theorem dX9_worst_17 : decode cX9_worst 17 = .ok (.getfield 98, 3) := by decide +kernel
theorem dX9_worst_20 : decode cX9_worst 20 = .ok (.iload_n 3, 1) := by decide +kernel
theorem dX9_worst_21 : decode cX9_worst 21 = .ok (.invokestatic 188, 3) := by decide +kernel
theorem dX9_worst_24 : decode cX9_worst 24 = .ok (.aload_n 0, 1) := by decide +kernel
theorem dX9_worst_25 : decode cX9_worst 25 = .ok (.getfield 26, 3) := by decide +kernel
theorem dX9_worst_28 : decode cX9_worst 28 = .ok (.getfield 105, 3) := by decide +kernel
theorem dX9_worst_31 : decode cX9_worst 31 = .ok (.iload_n 3, 1) := by decide +kernel
theorem dX9_worst_32 : decode cX9_worst 32 = .ok (.invokestatic 188, 3) := by decide +kernel
theorem dX9_worst_35 : decode cX9_worst 35 = .ok (.imul, 1) := by decide +kernel
theorem dX9_worst_36 : decode cX9_worst 36 = .ok (.istore 4, 2) := by decide +kernel
theorem dX9_worst_38 : decode cX9_worst 38 = .ok (.aload_n 0, 1) := by decide +kernel
theorem dX9_worst_39 : decode cX9_worst 39 = .ok (.getfield 19, 3) := by decide +kernel
theorem dX9_worst_42 : decode cX9_worst 42 = .ok (.iload_n 3, 1) := by decide +kernel
theorem dX9_worst_43 : decode cX9_worst 43 = .ok (.invokevirtual 108, 3) := by decide +kernel
theorem dX9_worst_46 : decode cX9_worst 46 = .ok (.ifCond .eq 14, 3) := by decide +kernel
theorem dX9_worst_49 : decode cX9_worst 49 = .ok (.iload 4, 2) := by decide +kernel
theorem dX9_worst_51 : decode cX9_worst 51 = .ok (.iload_n 1, 1) := by decide +kernel
theorem dX9_worst_52 : decode cX9_worst 52 = .ok (.if_icmp .le 8, 3) := by decide +kernel
theorem dX9_worst_55 : decode cX9_worst 55 = .ok (.iload 4, 2) := by decide +kernel
theorem dX9_worst_57 : decode cX9_worst 57 = .ok (.istore_n 1, 1) := by decide +kernel
theorem dX9_worst_58 : decode cX9_worst 58 = .ok (.iload_n 3, 1) := by decide +kernel
theorem dX9_worst_59 : decode cX9_worst 59 = .ok (.istore_n 2, 1) := by decide +kernel
theorem dX9_worst_60 : decode cX9_worst 60 = .ok (.iinc 3 1, 3) := by decide +kernel
theorem dX9_worst_63 : decode cX9_worst 63 = .ok (.goto (-56), 3) := by decide +kernel
theorem dX9_worst_66 : decode cX9_worst 66 = .ok (.iload_n 2, 1) := by decide +kernel
theorem dX9_worst_67 : decode cX9_worst 67 = .ok (.ireturn, 1) := by decide +kernel
theorem dX9_ways_0 : decode cX9_ways 0 = .ok (.aload_n 0, 1) := by decide +kernel
theorem dX9_ways_1 : decode cX9_ways 1 = .ok (.getfield 19, 3) := by decide +kernel
theorem dX9_ways_4 : decode cX9_ways 4 = .ok (.iload_n 1, 1) := by decide +kernel
theorem dX9_ways_5 : decode cX9_ways 5 = .ok (.invokevirtual 108, 3) := by decide +kernel
theorem dX9_ways_8 : decode cX9_ways 8 = .ok (.ifCond .eq 14, 3) := by decide +kernel
theorem dX9_ways_11 : decode cX9_ways 11 = .ok (.aload_n 0, 1) := by decide +kernel
theorem dX9_ways_12 : decode cX9_ways 12 = .ok (.getfield 19, 3) := by decide +kernel
theorem dX9_ways_15 : decode cX9_ways 15 = .ok (.iload_n 2, 1) := by decide +kernel
theorem dX9_ways_16 : decode cX9_ways 16 = .ok (.invokevirtual 108, 3) := by decide +kernel
theorem dX9_ways_19 : decode cX9_ways 19 = .ok (.ifCond .ne 5, 3) := by decide +kernel
theorem dX9_ways_22 : decode cX9_ways 22 = .ok (.iconst (-1), 1) := by decide +kernel
theorem dX9_ways_23 : decode cX9_ways 23 = .ok (.ireturn, 1) := by decide +kernel
theorem dX9_ways_24 : decode cX9_ways 24 = .ok (.aload_n 0, 1) := by decide +kernel
theorem dX9_ways_25 : decode cX9_ways 25 = .ok (.getfield 19, 3) := by decide +kernel
theorem dX9_ways_28 : decode cX9_ways 28 = .ok (.iload_n 1, 1) := by decide +kernel
theorem dX9_ways_29 : decode cX9_ways 29 = .ok (.iload_n 2, 1) := by decide +kernel
theorem dX9_ways_30 : decode cX9_ways 30 = .ok (.invokevirtual 227, 3) := by decide +kernel
theorem dX9_ways_33 : decode cX9_ways 33 = .ok (.ireturn, 1) := by decide +kernel
theorem dX9_way_0 : decode cX9_way 0 = .ok (.aload_n 0, 1) := by decide +kernel
theorem dX9_way_1 : decode cX9_way 1 = .ok (.getfield 19, 3) := by decide +kernel
theorem dX9_way_4 : decode cX9_way 4 = .ok (.iload_n 1, 1) := by decide +kernel
theorem dX9_way_5 : decode cX9_way 5 = .ok (.invokevirtual 108, 3) := by decide +kernel
theorem dX9_way_8 : decode cX9_way 8 = .ok (.ifCond .eq 30, 3) := by decide +kernel
theorem dX9_way_11 : decode cX9_way 11 = .ok (.aload_n 0, 1) := by decide +kernel
theorem dX9_way_12 : decode cX9_way 12 = .ok (.getfield 19, 3) := by decide +kernel
theorem dX9_way_15 : decode cX9_way 15 = .ok (.iload_n 2, 1) := by decide +kernel
theorem dX9_way_16 : decode cX9_way 16 = .ok (.invokevirtual 108, 3) := by decide +kernel
theorem dX9_way_19 : decode cX9_way 19 = .ok (.ifCond .eq 19, 3) := by decide +kernel
theorem dX9_way_22 : decode cX9_way 22 = .ok (.iload_n 3, 1) := by decide +kernel
theorem dX9_way_23 : decode cX9_way 23 = .ok (.bipush 100, 2) := by decide +kernel
theorem dX9_way_25 : decode cX9_way 25 = .ok (.if_icmp .eq 15, 3) := by decide +kernel
theorem dX9_way_28 : decode cX9_way 28 = .ok (.iload_n 3, 1) := by decide +kernel
theorem dX9_way_29 : decode cX9_way 29 = .ok (.iconst 0, 1) := by decide +kernel
theorem dX9_way_30 : decode cX9_way 30 = .ok (.bipush 15, 2) := by decide +kernel
theorem dX9_way_32 : decode cX9_way 32 = .ok (.invokestatic 90, 3) := by decide +kernel
theorem dX9_way_35 : decode cX9_way 35 = .ok (.ifCond .ne 5, 3) := by decide +kernel
theorem dX9_way_38 : decode cX9_way 38 = .ok (.iconst (-1), 1) := by decide +kernel
theorem dX9_way_39 : decode cX9_way 39 = .ok (.ireturn, 1) := by decide +kernel
theorem dX9_way_40 : decode cX9_way 40 = .ok (.aload_n 0, 1) := by decide +kernel
theorem dX9_way_41 : decode cX9_way 41 = .ok (.getfield 19, 3) := by decide +kernel
theorem dX9_way_44 : decode cX9_way 44 = .ok (.iload_n 2, 1) := by decide +kernel
theorem dX9_way_45 : decode cX9_way 45 = .ok (.invokevirtual 230, 3) := by decide +kernel
theorem dX9_way_48 : decode cX9_way 48 = .ok (.aload_n 0, 1) := by decide +kernel
theorem dX9_way_49 : decode cX9_way 49 = .ok (.getfield 19, 3) := by decide +kernel
theorem dX9_way_52 : decode cX9_way 52 = .ok (.iload_n 1, 1) := by decide +kernel
theorem dX9_way_53 : decode cX9_way 53 = .ok (.invokevirtual 233, 3) := by decide +kernel
theorem dX9_way_56 : decode cX9_way 56 = .ok (.istore 4, 2) := by decide +kernel
theorem dX9_way_58 : decode cX9_way 58 = .ok (.iload 4, 2) := by decide +kernel
theorem dX9_way_60 : decode cX9_way 60 = .ok (.ifCond .ge 6, 3) := by decide +kernel
theorem dX9_way_63 : decode cX9_way 63 = .ok (.bipush (-2), 2) := by decide +kernel
theorem dX9_way_65 : decode cX9_way 65 = .ok (.ireturn, 1) := by decide +kernel
theorem dX9_way_66 : decode cX9_way 66 = .ok (.iload_n 3, 1) := by decide +kernel
theorem dX9_way_67 : decode cX9_way 67 = .ok (.bipush 100, 2) := by decide +kernel
theorem dX9_way_69 : decode cX9_way 69 = .ok (.if_icmp .ne 6, 3) := by decide +kernel
theorem dX9_way_72 : decode cX9_way 72 = .ok (.iload 4, 2) := by decide +kernel
theorem dX9_way_74 : decode cX9_way 74 = .ok (.ireturn, 1) := by decide +kernel
theorem dX9_way_75 : decode cX9_way 75 = .ok (.iload_n 3, 1) := by decide +kernel
theorem dX9_way_76 : decode cX9_way 76 = .ok (.iload 4, 2) := by decide +kernel
theorem dX9_way_78 : decode cX9_way 78 = .ok (.if_icmp .le 8, 3) := by decide +kernel
theorem dX9_way_81 : decode cX9_way 81 = .ok (.bipush (-4), 2) := by decide +kernel
theorem dX9_way_83 : decode cX9_way 83 = .ok (.goto 12, 3) := by decide +kernel
theorem dX9_way_86 : decode cX9_way 86 = .ok (.aload_n 0, 1) := by decide +kernel
theorem dX9_way_87 : decode cX9_way 87 = .ok (.getfield 19, 3) := by decide +kernel
theorem dX9_way_90 : decode cX9_way 90 = .ok (.iload_n 1, 1) := by decide +kernel
theorem dX9_way_91 : decode cX9_way 91 = .ok (.iload_n 3, 1) := by decide +kernel
theorem dX9_way_92 : decode cX9_way 92 = .ok (.invokevirtual 236, 3) := by decide +kernel
theorem dX9_way_95 : decode cX9_way 95 = .ok (.ireturn, 1) := by decide +kernel
theorem dX9_nearest_0 : decode cX9_nearest 0 = .ok (.aload_n 0, 1) := by decide +kernel
theorem dX9_nearest_1 : decode cX9_nearest 1 = .ok (.getfield 19, 3) := by decide +kernel
theorem dX9_nearest_4 : decode cX9_nearest 4 = .ok (.iload_n 1, 1) := by decide +kernel
theorem dX9_nearest_5 : decode cX9_nearest 5 = .ok (.invokevirtual 108, 3) := by decide +kernel
theorem dX9_nearest_8 : decode cX9_nearest 8 = .ok (.ifCond .eq 12, 3) := by decide +kernel
theorem dX9_nearest_11 : decode cX9_nearest 11 = .ok (.iload_n 2, 1) := by decide +kernel
theorem dX9_nearest_12 : decode cX9_nearest 12 = .ok (.iconst 0, 1) := by decide +kernel
theorem dX9_nearest_13 : decode cX9_nearest 13 = .ok (.iconst 1, 1) := by decide +kernel
theorem dX9_nearest_14 : decode cX9_nearest 14 = .ok (.invokestatic 90, 3) := by decide +kernel
theorem dX9_nearest_17 : decode cX9_nearest 17 = .ok (.ifCond .ne 5, 3) := by decide +kernel
theorem dX9_nearest_20 : decode cX9_nearest 20 = .ok (.iconst (-1), 1) := by decide +kernel
theorem dX9_nearest_21 : decode cX9_nearest 21 = .ok (.ireturn, 1) := by decide +kernel
theorem dX9_nearest_22 : decode cX9_nearest 22 = .ok (.aload_n 0, 1) := by decide +kernel
theorem dX9_nearest_23 : decode cX9_nearest 23 = .ok (.getfield 19, 3) := by decide +kernel
theorem dX9_nearest_26 : decode cX9_nearest 26 = .ok (.iload_n 1, 1) := by decide +kernel
theorem dX9_nearest_27 : decode cX9_nearest 27 = .ok (.invokevirtual 230, 3) := by decide +kernel
theorem dX9_nearest_30 : decode cX9_nearest 30 = .ok (.bipush (-2), 2) := by decide +kernel
theorem dX9_nearest_32 : decode cX9_nearest 32 = .ok (.istore_n 3, 1) := by decide +kernel
theorem dX9_nearest_33 : decode cX9_nearest 33 = .ok (.bipush (-2), 2) := by decide +kernel
theorem dX9_nearest_35 : decode cX9_nearest 35 = .ok (.istore 4, 2) := by decide +kernel
theorem dX9_nearest_37 : decode cX9_nearest 37 = .ok (.iconst 0, 1) := by decide +kernel
theorem dX9_nearest_38 : decode cX9_nearest 38 = .ok (.istore 5, 2) := by decide +kernel
theorem dX9_nearest_40 : decode cX9_nearest 40 = .ok (.iload 5, 2) := by decide +kernel
theorem dX9_nearest_42 : decode cX9_nearest 42 = .ok (.bipush 8, 2) := by decide +kernel
theorem dX9_nearest_44 : decode cX9_nearest 44 = .ok (.if_icmp .ge 70, 3) := by decide +kernel
theorem dX9_nearest_47 : decode cX9_nearest 47 = .ok (.aload_n 0, 1) := by decide +kernel
theorem dX9_nearest_48 : decode cX9_nearest 48 = .ok (.getfield 26, 3) := by decide +kernel
theorem dX9_nearest_51 : decode cX9_nearest 51 = .ok (.iload 5, 2) := by decide +kernel
theorem dX9_nearest_53 : decode cX9_nearest 53 = .ok (.invokevirtual 195, 3) := by decide +kernel
theorem dX9_nearest_56 : decode cX9_nearest 56 = .ok (.ifCond .eq 25, 3) := by decide +kernel
theorem dX9_nearest_59 : decode cX9_nearest 59 = .ok (.aload_n 0, 1) := by decide +kernel
theorem dX9_nearest_60 : decode cX9_nearest 60 = .ok (.getfield 19, 3) := by decide +kernel
theorem dX9_nearest_63 : decode cX9_nearest 63 = .ok (.aload_n 0, 1) := by decide +kernel
theorem dX9_nearest_64 : decode cX9_nearest 64 = .ok (.getfield 26, 3) := by decide +kernel
theorem dX9_nearest_67 : decode cX9_nearest 67 = .ok (.getfield 115, 3) := by decide +kernel
theorem dX9_nearest_70 : decode cX9_nearest 70 = .ok (.iload 5, 2) := by decide +kernel
theorem dX9_nearest_72 : decode cX9_nearest 72 = .ok (.invokestatic 188, 3) := by decide +kernel
theorem dX9_nearest_75 : decode cX9_nearest 75 = .ok (.invokevirtual 233, 3) := by decide +kernel
theorem dX9_nearest_78 : decode cX9_nearest 78 = .ok (.goto 4, 3) := by decide +kernel
theorem dX9_nearest_81 : decode cX9_nearest 81 = .ok (.iconst (-1), 1) := by decide +kernel
theorem dX9_nearest_82 : decode cX9_nearest 82 = .ok (.istore 6, 2) := by decide +kernel
theorem dX9_nearest_84 : decode cX9_nearest 84 = .ok (.iload 6, 2) := by decide +kernel
theorem dX9_nearest_86 : decode cX9_nearest 86 = .ok (.ifCond .lt 22, 3) := by decide +kernel
theorem dX9_nearest_89 : decode cX9_nearest 89 = .ok (.iload 4, 2) := by decide +kernel
theorem dX9_nearest_91 : decode cX9_nearest 91 = .ok (.ifCond .lt 10, 3) := by decide +kernel
theorem dX9_nearest_94 : decode cX9_nearest 94 = .ok (.iload 6, 2) := by decide +kernel
theorem dX9_nearest_96 : decode cX9_nearest 96 = .ok (.iload 4, 2) := by decide +kernel
theorem dX9_nearest_98 : decode cX9_nearest 98 = .ok (.if_icmp .ge 10, 3) := by decide +kernel
theorem dX9_nearest_101 : decode cX9_nearest 101 = .ok (.iload 5, 2) := by decide +kernel
theorem dX9_nearest_103 : decode cX9_nearest 103 = .ok (.istore_n 3, 1) := by decide +kernel
theorem dX9_nearest_104 : decode cX9_nearest 104 = .ok (.iload 6, 2) := by decide +kernel
theorem dX9_nearest_106 : decode cX9_nearest 106 = .ok (.istore 4, 2) := by decide +kernel
theorem dX9_nearest_108 : decode cX9_nearest 108 = .ok (.iinc 5 1, 3) := by decide +kernel
theorem dX9_nearest_111 : decode cX9_nearest 111 = .ok (.goto (-71), 3) := by decide +kernel
theorem dX9_nearest_114 : decode cX9_nearest 114 = .ok (.iload_n 2, 1) := by decide +kernel
theorem dX9_nearest_115 : decode cX9_nearest 115 = .ok (.ifCond .ne 7, 3) := by decide +kernel
theorem dX9_nearest_118 : decode cX9_nearest 118 = .ok (.iload_n 3, 1) := by decide +kernel
theorem dX9_nearest_119 : decode cX9_nearest 119 = .ok (.goto 5, 3) := by decide +kernel
theorem dX9_nearest_122 : decode cX9_nearest 122 = .ok (.iload 4, 2) := by decide +kernel
theorem dX9_nearest_124 : decode cX9_nearest 124 = .ok (.ireturn, 1) := by decide +kernel
theorem dX9_posts_0 : decode cX9_posts 0 = .ok (.iload_n 1, 1) := by decide +kernel
theorem dX9_posts_1 : decode cX9_posts 1 = .ok (.iconst 0, 1) := by decide +kernel
theorem dX9_posts_2 : decode cX9_posts 2 = .ok (.iconst 1, 1) := by decide +kernel
theorem dX9_posts_3 : decode cX9_posts 3 = .ok (.invokestatic 90, 3) := by decide +kernel
theorem dX9_posts_6 : decode cX9_posts 6 = .ok (.ifCond .ne 5, 3) := by decide +kernel
theorem dX9_posts_9 : decode cX9_posts 9 = .ok (.iconst (-1), 1) := by decide +kernel
theorem dX9_posts_10 : decode cX9_posts 10 = .ok (.ireturn, 1) := by decide +kernel
theorem dX9_posts_11 : decode cX9_posts 11 = .ok (.aload_n 0, 1) := by decide +kernel
theorem dX9_posts_12 : decode cX9_posts 12 = .ok (.getfield 19, 3) := by decide +kernel
theorem dX9_posts_15 : decode cX9_posts 15 = .ok (.invokevirtual 239, 3) := by decide +kernel
theorem dX9_posts_18 : decode cX9_posts 18 = .ok (.istore_n 2, 1) := by decide +kernel
theorem dX9_posts_19 : decode cX9_posts 19 = .ok (.iload_n 1, 1) := by decide +kernel
theorem dX9_posts_20 : decode cX9_posts 20 = .ok (.ifCond .ne 10, 3) := by decide +kernel
theorem dX9_posts_23 : decode cX9_posts 23 = .ok (.iload_n 2, 1) := by decide +kernel
theorem dX9_posts_24 : decode cX9_posts 24 = .ok (.invokestatic 242, 3) := by decide +kernel
theorem dX9_posts_27 : decode cX9_posts 27 = .ok (.goto 4, 3) := by decide +kernel
theorem dX9_posts_30 : decode cX9_posts 30 = .ok (.iload_n 2, 1) := by decide +kernel
theorem dX9_posts_31 : decode cX9_posts 31 = .ok (.ireturn, 1) := by decide +kernel
theorem dX9_round_0 : decode cX9_round 0 = .ok (.aload_n 0, 1) := by decide +kernel
theorem dX9_round_1 : decode cX9_round 1 = .ok (.getfield 19, 3) := by decide +kernel
theorem dX9_round_4 : decode cX9_round 4 = .ok (.iload_n 1, 1) := by decide +kernel
theorem dX9_round_5 : decode cX9_round 5 = .ok (.invokevirtual 108, 3) := by decide +kernel
theorem dX9_round_8 : decode cX9_round 8 = .ok (.ifCond .eq 22, 3) := by decide +kernel
theorem dX9_round_11 : decode cX9_round 11 = .ok (.iload_n 2, 1) := by decide +kernel
theorem dX9_round_12 : decode cX9_round 12 = .ok (.iconst 1, 1) := by decide +kernel
theorem dX9_round_13 : decode cX9_round 13 = .ok (.bipush 8, 2) := by decide +kernel
theorem dX9_round_15 : decode cX9_round 15 = .ok (.invokestatic 90, 3) := by decide +kernel
theorem dX9_round_18 : decode cX9_round 18 = .ok (.ifCond .eq 12, 3) := by decide +kernel
theorem dX9_round_21 : decode cX9_round 21 = .ok (.iload_n 3, 1) := by decide +kernel
theorem dX9_round_22 : decode cX9_round 22 = .ok (.iconst 0, 1) := by decide +kernel
theorem dX9_round_23 : decode cX9_round 23 = .ok (.iconst 1, 1) := by decide +kernel
theorem dX9_round_24 : decode cX9_round 24 = .ok (.invokestatic 90, 3) := by decide +kernel
theorem dX9_round_27 : decode cX9_round 27 = .ok (.ifCond .ne 5, 3) := by decide +kernel
theorem dX9_round_30 : decode cX9_round 30 = .ok (.iconst (-1), 1) := by decide +kernel
theorem dX9_round_31 : decode cX9_round 31 = .ok (.ireturn, 1) := by decide +kernel
theorem dX9_round_32 : decode cX9_round 32 = .ok (.aload_n 0, 1) := by decide +kernel
theorem dX9_round_33 : decode cX9_round 33 = .ok (.getfield 82, 3) := by decide +kernel
theorem dX9_round_36 : decode cX9_round 36 = .ok (.ifnonnull 14, 3) := by decide +kernel
theorem dX9_round_39 : decode cX9_round 39 = .ok (.aload_n 0, 1) := by decide +kernel
theorem dX9_round_40 : decode cX9_round 40 = .ok (.new 247, 3) := by decide +kernel
theorem dX9_round_43 : decode cX9_round 43 = .ok (.dup, 1) := by decide +kernel
theorem dX9_round_44 : decode cX9_round 44 = .ok (.invokespecial 249, 3) := by decide +kernel
theorem dX9_round_47 : decode cX9_round 47 = .ok (.putfield 82, 3) := by decide +kernel
theorem dX9_round_50 : decode cX9_round 50 = .ok (.aload_n 0, 1) := by decide +kernel
theorem dX9_round_51 : decode cX9_round 51 = .ok (.getfield 82, 3) := by decide +kernel
theorem dX9_round_54 : decode cX9_round 54 = .ok (.iload_n 1, 1) := by decide +kernel
theorem dX9_round_55 : decode cX9_round 55 = .ok (.iload_n 2, 1) := by decide +kernel
theorem dX9_round_56 : decode cX9_round 56 = .ok (.aload_n 0, 1) := by decide +kernel
theorem dX9_round_57 : decode cX9_round 57 = .ok (.getfield 26, 3) := by decide +kernel
theorem dX9_round_60 : decode cX9_round 60 = .ok (.getfield 98, 3) := by decide +kernel
theorem dX9_round_63 : decode cX9_round 63 = .ok (.aload_n 0, 1) := by decide +kernel
theorem dX9_round_64 : decode cX9_round 64 = .ok (.getfield 19, 3) := by decide +kernel
theorem dX9_round_67 : decode cX9_round 67 = .ok (.invokevirtual 250, 3) := by decide +kernel
theorem dX9_round_70 : decode cX9_round 70 = .ok (.istore 4, 2) := by decide +kernel
theorem dX9_round_72 : decode cX9_round 72 = .ok (.iload_n 3, 1) := by decide +kernel
theorem dX9_round_73 : decode cX9_round 73 = .ok (.ifCond .ne 18, 3) := by decide +kernel
theorem dX9_round_76 : decode cX9_round 76 = .ok (.aload_n 0, 1) := by decide +kernel
theorem dX9_round_77 : decode cX9_round 77 = .ok (.getfield 26, 3) := by decide +kernel
theorem dX9_round_80 : decode cX9_round 80 = .ok (.getfield 98, 3) := by decide +kernel
theorem dX9_round_83 : decode cX9_round 83 = .ok (.iload 4, 2) := by decide +kernel
theorem dX9_round_85 : decode cX9_round 85 = .ok (.invokestatic 254, 3) := by decide +kernel
theorem dX9_round_88 : decode cX9_round 88 = .ok (.goto 5, 3) := by decide +kernel
theorem dX9_round_91 : decode cX9_round 91 = .ok (.iload 4, 2) := by decide +kernel
theorem dX9_round_93 : decode cX9_round 93 = .ok (.ireturn, 1) := by decide +kernel
theorem dX9_lanes_0 : decode cX9_lanes 0 = .ok (.iload_n 1, 1) := by decide +kernel
theorem dX9_lanes_1 : decode cX9_lanes 1 = .ok (.iconst 0, 1) := by decide +kernel
theorem dX9_lanes_2 : decode cX9_lanes 2 = .ok (.iconst 3, 1) := by decide +kernel
theorem dX9_lanes_3 : decode cX9_lanes 3 = .ok (.invokestatic 90, 3) := by decide +kernel
theorem dX9_lanes_6 : decode cX9_lanes 6 = .ok (.ifCond .ne 5, 3) := by decide +kernel
theorem dX9_lanes_9 : decode cX9_lanes 9 = .ok (.iconst (-1), 1) := by decide +kernel
theorem dX9_lanes_10 : decode cX9_lanes 10 = .ok (.ireturn, 1) := by decide +kernel
theorem dX9_lanes_11 : decode cX9_lanes 11 = .ok (.iload_n 1, 1) := by decide +kernel
theorem dX9_lanes_12 : decode cX9_lanes 12 = .ok (.ifCond .ne 11, 3) := by decide +kernel
theorem dX9_lanes_15 : decode cX9_lanes 15 = .ok (.aload_n 0, 1) := by decide +kernel
theorem dX9_lanes_16 : decode cX9_lanes 16 = .ok (.getfield 19, 3) := by decide +kernel
theorem dX9_lanes_19 : decode cX9_lanes 19 = .ok (.invokevirtual 257, 3) := by decide +kernel
theorem dX9_lanes_22 : decode cX9_lanes 22 = .ok (.ireturn, 1) := by decide +kernel
theorem dX9_lanes_23 : decode cX9_lanes 23 = .ok (.iload_n 1, 1) := by decide +kernel
theorem dX9_lanes_24 : decode cX9_lanes 24 = .ok (.iconst 1, 1) := by decide +kernel
theorem dX9_lanes_25 : decode cX9_lanes 25 = .ok (.if_icmp .ne 11, 3) := by decide +kernel
theorem dX9_lanes_28 : decode cX9_lanes 28 = .ok (.aload_n 0, 1) := by decide +kernel
theorem dX9_lanes_29 : decode cX9_lanes 29 = .ok (.getfield 19, 3) := by decide +kernel
theorem dX9_lanes_32 : decode cX9_lanes 32 = .ok (.invokevirtual 260, 3) := by decide +kernel
theorem dX9_lanes_35 : decode cX9_lanes 35 = .ok (.ireturn, 1) := by decide +kernel
theorem dX9_lanes_36 : decode cX9_lanes 36 = .ok (.aload_n 0, 1) := by decide +kernel
theorem dX9_lanes_37 : decode cX9_lanes 37 = .ok (.getfield 19, 3) := by decide +kernel
theorem dX9_lanes_40 : decode cX9_lanes 40 = .ok (.invokevirtual 263, 3) := by decide +kernel
theorem dX9_lanes_43 : decode cX9_lanes 43 = .ok (.istore_n 2, 1) := by decide +kernel
theorem dX9_lanes_44 : decode cX9_lanes 44 = .ok (.iload_n 2, 1) := by decide +kernel
theorem dX9_lanes_45 : decode cX9_lanes 45 = .ok (.ifCond .ge 6, 3) := by decide +kernel
theorem dX9_lanes_48 : decode cX9_lanes 48 = .ok (.bipush (-2), 2) := by decide +kernel
theorem dX9_lanes_50 : decode cX9_lanes 50 = .ok (.ireturn, 1) := by decide +kernel
theorem dX9_lanes_51 : decode cX9_lanes 51 = .ok (.iload_n 1, 1) := by decide +kernel
theorem dX9_lanes_52 : decode cX9_lanes 52 = .ok (.iconst 2, 1) := by decide +kernel
theorem dX9_lanes_53 : decode cX9_lanes 53 = .ok (.if_icmp .ne 10, 3) := by decide +kernel
theorem dX9_lanes_56 : decode cX9_lanes 56 = .ok (.iload_n 2, 1) := by decide +kernel
theorem dX9_lanes_57 : decode cX9_lanes 57 = .ok (.bipush 16, 2) := by decide +kernel
theorem dX9_lanes_59 : decode cX9_lanes 59 = .ok (.idiv, 1) := by decide +kernel
theorem dX9_lanes_60 : decode cX9_lanes 60 = .ok (.goto 7, 3) := by decide +kernel
theorem dX9_lanes_63 : decode cX9_lanes 63 = .ok (.iload_n 2, 1) := by decide +kernel
theorem dX9_lanes_64 : decode cX9_lanes 64 = .ok (.bipush 16, 2) := by decide +kernel
theorem dX9_lanes_66 : decode cX9_lanes 66 = .ok (.irem, 1) := by decide +kernel
theorem dX9_lanes_67 : decode cX9_lanes 67 = .ok (.ireturn, 1) := by decide +kernel
theorem dX9_watches_0 : decode cX9_watches 0 = .ok (.iload_n 1, 1) := by decide +kernel
theorem dX9_watches_1 : decode cX9_watches 1 = .ok (.bipush 100, 2) := by decide +kernel
theorem dX9_watches_3 : decode cX9_watches 3 = .ok (.if_icmp .eq 16, 3) := by decide +kernel
theorem dX9_watches_6 : decode cX9_watches 6 = .ok (.aload_n 0, 1) := by decide +kernel
theorem dX9_watches_7 : decode cX9_watches 7 = .ok (.getfield 19, 3) := by decide +kernel
theorem dX9_watches_10 : decode cX9_watches 10 = .ok (.iload_n 1, 1) := by decide +kernel
theorem dX9_watches_11 : decode cX9_watches 11 = .ok (.invokevirtual 108, 3) := by decide +kernel
theorem dX9_watches_14 : decode cX9_watches 14 = .ok (.ifCond .ne 5, 3) := by decide +kernel
theorem dX9_watches_17 : decode cX9_watches 17 = .ok (.iconst (-1), 1) := by decide +kernel
theorem dX9_watches_18 : decode cX9_watches 18 = .ok (.ireturn, 1) := by decide +kernel
theorem dX9_watches_19 : decode cX9_watches 19 = .ok (.aload_n 0, 1) := by decide +kernel
theorem dX9_watches_20 : decode cX9_watches 20 = .ok (.getfield 59, 3) := by decide +kernel
theorem dX9_watches_23 : decode cX9_watches 23 = .ok (.aload_n 0, 1) := by decide +kernel
theorem dX9_watches_24 : decode cX9_watches 24 = .ok (.getfield 19, 3) := by decide +kernel
theorem dX9_watches_27 : decode cX9_watches 27 = .ok (.invokevirtual 266, 3) := by decide +kernel
theorem dX9_watches_30 : decode cX9_watches 30 = .ok (.istore_n 2, 1) := by decide +kernel
theorem dX9_watches_31 : decode cX9_watches 31 = .ok (.iload_n 1, 1) := by decide +kernel
theorem dX9_watches_32 : decode cX9_watches 32 = .ok (.bipush 100, 2) := by decide +kernel
theorem dX9_watches_34 : decode cX9_watches 34 = .ok (.if_icmp .ne 7, 3) := by decide +kernel
theorem dX9_watches_37 : decode cX9_watches 37 = .ok (.iload_n 2, 1) := by decide +kernel
theorem dX9_watches_38 : decode cX9_watches 38 = .ok (.goto 16, 3) := by decide +kernel
theorem dX9_watches_41 : decode cX9_watches 41 = .ok (.aload_n 0, 1) := by decide +kernel
theorem dX9_watches_42 : decode cX9_watches 42 = .ok (.getfield 59, 3) := by decide +kernel
theorem dX9_watches_45 : decode cX9_watches 45 = .ok (.iload_n 1, 1) := by decide +kernel
theorem dX9_watches_46 : decode cX9_watches 46 = .ok (.iload_n 2, 1) := by decide +kernel
theorem dX9_watches_47 : decode cX9_watches 47 = .ok (.aload_n 0, 1) := by decide +kernel
theorem dX9_watches_48 : decode cX9_watches 48 = .ok (.getfield 19, 3) := by decide +kernel
theorem dX9_watches_51 : decode cX9_watches 51 = .ok (.invokevirtual 270, 3) := by decide +kernel
theorem dX9_watches_54 : decode cX9_watches 54 = .ok (.ireturn, 1) := by decide +kernel
theorem dX9_alibis_0 : decode cX9_alibis 0 = .ok (.iload_n 1, 1) := by decide +kernel
theorem dX9_alibis_1 : decode cX9_alibis 1 = .ok (.iconst 1, 1) := by decide +kernel
theorem dX9_alibis_2 : decode cX9_alibis 2 = .ok (.bipush 10, 2) := by decide +kernel
theorem dX9_alibis_4 : decode cX9_alibis 4 = .ok (.invokestatic 90, 3) := by decide +kernel
theorem dX9_alibis_7 : decode cX9_alibis 7 = .ok (.ifCond .eq 38, 3) := by decide +kernel
theorem dX9_alibis_10 : decode cX9_alibis 10 = .ok (.aload_n 0, 1) := by decide +kernel
theorem dX9_alibis_11 : decode cX9_alibis 11 = .ok (.getfield 19, 3) := by decide +kernel
theorem dX9_alibis_14 : decode cX9_alibis 14 = .ok (.iload_n 2, 1) := by decide +kernel
theorem dX9_alibis_15 : decode cX9_alibis 15 = .ok (.invokevirtual 108, 3) := by decide +kernel
theorem dX9_alibis_18 : decode cX9_alibis 18 = .ok (.ifCond .eq 27, 3) := by decide +kernel
theorem dX9_alibis_21 : decode cX9_alibis 21 = .ok (.iload_n 3, 1) := by decide +kernel
theorem dX9_alibis_22 : decode cX9_alibis 22 = .ok (.iconst 0, 1) := by decide +kernel
theorem dX9_alibis_23 : decode cX9_alibis 23 = .ok (.sipush 255, 3) := by decide +kernel
theorem dX9_alibis_26 : decode cX9_alibis 26 = .ok (.invokestatic 90, 3) := by decide +kernel
theorem dX9_alibis_29 : decode cX9_alibis 29 = .ok (.ifCond .eq 16, 3) := by decide +kernel
theorem dX9_alibis_32 : decode cX9_alibis 32 = .ok (.aload_n 0, 1) := by decide +kernel
theorem dX9_alibis_33 : decode cX9_alibis 33 = .ok (.getfield 10, 3) := by decide +kernel
theorem dX9_alibis_36 : decode cX9_alibis 36 = .ok (.iconst 4, 1) := by decide +kernel
theorem dX9_alibis_37 : decode cX9_alibis 37 = .ok (.iload_n 1, 1) := by decide +kernel
theorem dX9_alibis_38 : decode cX9_alibis 38 = .ok (.imul, 1) := by decide +kernel
theorem dX9_alibis_39 : decode cX9_alibis 39 = .ok (.invokevirtual 132, 3) := by decide +kernel
theorem dX9_alibis_42 : decode cX9_alibis 42 = .ok (.ifCond .ne 5, 3) := by decide +kernel
theorem dX9_alibis_45 : decode cX9_alibis 45 = .ok (.iconst (-1), 1) := by decide +kernel
theorem dX9_alibis_46 : decode cX9_alibis 46 = .ok (.ireturn, 1) := by decide +kernel
theorem dX9_alibis_47 : decode cX9_alibis 47 = .ok (.aload_n 0, 1) := by decide +kernel
theorem dX9_alibis_48 : decode cX9_alibis 48 = .ok (.getfield 10, 3) := by decide +kernel
theorem dX9_alibis_51 : decode cX9_alibis 51 = .ok (.iconst 4, 1) := by decide +kernel
theorem dX9_alibis_52 : decode cX9_alibis 52 = .ok (.iload_n 1, 1) := by decide +kernel
theorem dX9_alibis_53 : decode cX9_alibis 53 = .ok (.imul, 1) := by decide +kernel
theorem dX9_alibis_54 : decode cX9_alibis 54 = .ok (.invokevirtual 135, 3) := by decide +kernel
theorem dX9_alibis_57 : decode cX9_alibis 57 = .ok (.iconst 0, 1) := by decide +kernel
theorem dX9_alibis_58 : decode cX9_alibis 58 = .ok (.istore 4, 2) := by decide +kernel
theorem dX9_alibis_60 : decode cX9_alibis 60 = .ok (.iload 4, 2) := by decide +kernel
theorem dX9_alibis_62 : decode cX9_alibis 62 = .ok (.iload_n 1, 1) := by decide +kernel
theorem dX9_alibis_63 : decode cX9_alibis 63 = .ok (.if_icmp .ge 56, 3) := by decide +kernel
theorem dX9_alibis_66 : decode cX9_alibis 66 = .ok (.aload_n 0, 1) := by decide +kernel
theorem dX9_alibis_67 : decode cX9_alibis 67 = .ok (.getfield 19, 3) := by decide +kernel
theorem dX9_alibis_70 : decode cX9_alibis 70 = .ok (.aload_n 0, 1) := by decide +kernel
theorem dX9_alibis_71 : decode cX9_alibis 71 = .ok (.getfield 10, 3) := by decide +kernel
theorem dX9_alibis_74 : decode cX9_alibis 74 = .ok (.iconst 4, 1) := by decide +kernel
theorem dX9_alibis_75 : decode cX9_alibis 75 = .ok (.iload 4, 2) := by decide +kernel
theorem dX9_alibis_77 : decode cX9_alibis 77 = .ok (.imul, 1) := by decide +kernel
theorem dX9_alibis_78 : decode cX9_alibis 78 = .ok (.invokevirtual 224, 3) := by decide +kernel
theorem dX9_alibis_81 : decode cX9_alibis 81 = .ok (.invokevirtual 108, 3) := by decide +kernel
theorem dX9_alibis_84 : decode cX9_alibis 84 = .ok (.ifCond .eq 26, 3) := by decide +kernel
theorem dX9_alibis_87 : decode cX9_alibis 87 = .ok (.aload_n 0, 1) := by decide +kernel
theorem dX9_alibis_88 : decode cX9_alibis 88 = .ok (.getfield 19, 3) := by decide +kernel
theorem dX9_alibis_91 : decode cX9_alibis 91 = .ok (.aload_n 0, 1) := by decide +kernel
theorem dX9_alibis_92 : decode cX9_alibis 92 = .ok (.getfield 10, 3) := by decide +kernel
theorem dX9_alibis_95 : decode cX9_alibis 95 = .ok (.iconst 4, 1) := by decide +kernel
theorem dX9_alibis_96 : decode cX9_alibis 96 = .ok (.iload 4, 2) := by decide +kernel
theorem dX9_alibis_98 : decode cX9_alibis 98 = .ok (.imul, 1) := by decide +kernel
theorem dX9_alibis_99 : decode cX9_alibis 99 = .ok (.iconst 2, 1) := by decide +kernel
theorem dX9_alibis_100 : decode cX9_alibis 100 = .ok (.iadd, 1) := by decide +kernel
theorem dX9_alibis_101 : decode cX9_alibis 101 = .ok (.invokevirtual 224, 3) := by decide +kernel
theorem dX9_alibis_104 : decode cX9_alibis 104 = .ok (.invokevirtual 108, 3) := by decide +kernel
theorem dX9_alibis_107 : decode cX9_alibis 107 = .ok (.ifCond .ne 6, 3) := by decide +kernel
theorem dX9_alibis_110 : decode cX9_alibis 110 = .ok (.bipush (-2), 2) := by decide +kernel
theorem dX9_alibis_112 : decode cX9_alibis 112 = .ok (.ireturn, 1) := by decide +kernel
theorem dX9_alibis_113 : decode cX9_alibis 113 = .ok (.iinc 4 1, 3) := by decide +kernel
theorem dX9_alibis_116 : decode cX9_alibis 116 = .ok (.goto (-56), 3) := by decide +kernel
theorem dX9_alibis_119 : decode cX9_alibis 119 = .ok (.aload_n 0, 1) := by decide +kernel
theorem dX9_alibis_120 : decode cX9_alibis 120 = .ok (.getfield 19, 3) := by decide +kernel
theorem dX9_alibis_123 : decode cX9_alibis 123 = .ok (.iload_n 2, 1) := by decide +kernel
theorem dX9_alibis_124 : decode cX9_alibis 124 = .ok (.invokevirtual 230, 3) := by decide +kernel
theorem dX9_alibis_127 : decode cX9_alibis 127 = .ok (.iconst 0, 1) := by decide +kernel
theorem dX9_alibis_128 : decode cX9_alibis 128 = .ok (.istore 4, 2) := by decide +kernel
theorem dX9_alibis_130 : decode cX9_alibis 130 = .ok (.iconst 0, 1) := by decide +kernel
theorem dX9_alibis_131 : decode cX9_alibis 131 = .ok (.istore 5, 2) := by decide +kernel
theorem dX9_alibis_133 : decode cX9_alibis 133 = .ok (.iload 5, 2) := by decide +kernel
theorem dX9_alibis_135 : decode cX9_alibis 135 = .ok (.iload_n 1, 1) := by decide +kernel
theorem dX9_alibis_136 : decode cX9_alibis 136 = .ok (.if_icmp .ge 94, 3) := by decide +kernel
theorem dX9_alibis_139 : decode cX9_alibis 139 = .ok (.aload_n 0, 1) := by decide +kernel
theorem dX9_alibis_140 : decode cX9_alibis 140 = .ok (.aload_n 0, 1) := by decide +kernel
theorem dX9_alibis_141 : decode cX9_alibis 141 = .ok (.getfield 10, 3) := by decide +kernel
theorem dX9_alibis_144 : decode cX9_alibis 144 = .ok (.iconst 4, 1) := by decide +kernel
theorem dX9_alibis_145 : decode cX9_alibis 145 = .ok (.iload 5, 2) := by decide +kernel
theorem dX9_alibis_147 : decode cX9_alibis 147 = .ok (.imul, 1) := by decide +kernel
theorem dX9_alibis_148 : decode cX9_alibis 148 = .ok (.invokevirtual 224, 3) := by decide +kernel
theorem dX9_alibis_151 : decode cX9_alibis 151 = .ok (.iload_n 3, 1) := by decide +kernel
theorem dX9_alibis_152 : decode cX9_alibis 152 = .ok (.aload_n 0, 1) := by decide +kernel
theorem dX9_alibis_153 : decode cX9_alibis 153 = .ok (.getfield 10, 3) := by decide +kernel
theorem dX9_alibis_156 : decode cX9_alibis 156 = .ok (.iconst 4, 1) := by decide +kernel
theorem dX9_alibis_157 : decode cX9_alibis 157 = .ok (.iload 5, 2) := by decide +kernel
theorem dX9_alibis_159 : decode cX9_alibis 159 = .ok (.imul, 1) := by decide +kernel
theorem dX9_alibis_160 : decode cX9_alibis 160 = .ok (.iconst 1, 1) := by decide +kernel
theorem dX9_alibis_161 : decode cX9_alibis 161 = .ok (.iadd, 1) := by decide +kernel
theorem dX9_alibis_162 : decode cX9_alibis 162 = .ok (.invokevirtual 224, 3) := by decide +kernel
theorem dX9_alibis_165 : decode cX9_alibis 165 = .ok (.isub, 1) := by decide +kernel
theorem dX9_alibis_166 : decode cX9_alibis 166 = .ok (.invokevirtual 274, 3) := by decide +kernel
theorem dX9_alibis_169 : decode cX9_alibis 169 = .ok (.istore 6, 2) := by decide +kernel
theorem dX9_alibis_171 : decode cX9_alibis 171 = .ok (.aload_n 0, 1) := by decide +kernel
theorem dX9_alibis_172 : decode cX9_alibis 172 = .ok (.aload_n 0, 1) := by decide +kernel
theorem dX9_alibis_173 : decode cX9_alibis 173 = .ok (.getfield 10, 3) := by decide +kernel
theorem dX9_alibis_176 : decode cX9_alibis 176 = .ok (.iconst 4, 1) := by decide +kernel
theorem dX9_alibis_177 : decode cX9_alibis 177 = .ok (.iload 5, 2) := by decide +kernel
theorem dX9_alibis_179 : decode cX9_alibis 179 = .ok (.imul, 1) := by decide +kernel
theorem dX9_alibis_180 : decode cX9_alibis 180 = .ok (.iconst 2, 1) := by decide +kernel
theorem dX9_alibis_181 : decode cX9_alibis 181 = .ok (.iadd, 1) := by decide +kernel
theorem dX9_alibis_182 : decode cX9_alibis 182 = .ok (.invokevirtual 224, 3) := by decide +kernel
theorem dX9_alibis_185 : decode cX9_alibis 185 = .ok (.aload_n 0, 1) := by decide +kernel
theorem dX9_alibis_186 : decode cX9_alibis 186 = .ok (.getfield 10, 3) := by decide +kernel
theorem dX9_alibis_189 : decode cX9_alibis 189 = .ok (.iconst 4, 1) := by decide +kernel
theorem dX9_alibis_190 : decode cX9_alibis 190 = .ok (.iload 5, 2) := by decide +kernel
theorem dX9_alibis_192 : decode cX9_alibis 192 = .ok (.imul, 1) := by decide +kernel
theorem dX9_alibis_193 : decode cX9_alibis 193 = .ok (.iconst 3, 1) := by decide +kernel
theorem dX9_alibis_194 : decode cX9_alibis 194 = .ok (.iadd, 1) := by decide +kernel
theorem dX9_alibis_195 : decode cX9_alibis 195 = .ok (.invokevirtual 224, 3) := by decide +kernel
theorem dX9_alibis_198 : decode cX9_alibis 198 = .ok (.iload_n 3, 1) := by decide +kernel
theorem dX9_alibis_199 : decode cX9_alibis 199 = .ok (.isub, 1) := by decide +kernel
theorem dX9_alibis_200 : decode cX9_alibis 200 = .ok (.invokevirtual 274, 3) := by decide +kernel
theorem dX9_alibis_203 : decode cX9_alibis 203 = .ok (.istore 7, 2) := by decide +kernel
theorem dX9_alibis_205 : decode cX9_alibis 205 = .ok (.iload 6, 2) := by decide +kernel
theorem dX9_alibis_207 : decode cX9_alibis 207 = .ok (.ifCond .eq 17, 3) := by decide +kernel
theorem dX9_alibis_210 : decode cX9_alibis 210 = .ok (.iload 7, 2) := by decide +kernel
theorem dX9_alibis_212 : decode cX9_alibis 212 = .ok (.ifCond .eq 12, 3) := by decide +kernel
theorem dX9_alibis_215 : decode cX9_alibis 215 = .ok (.iload 4, 2) := by decide +kernel
theorem dX9_alibis_217 : decode cX9_alibis 217 = .ok (.iconst 1, 1) := by decide +kernel
theorem dX9_alibis_218 : decode cX9_alibis 218 = .ok (.iload 5, 2) := by decide +kernel
theorem dX9_alibis_220 : decode cX9_alibis 220 = .ok (.ishl, 1) := by decide +kernel
theorem dX9_alibis_221 : decode cX9_alibis 221 = .ok (.ior, 1) := by decide +kernel
theorem dX9_alibis_222 : decode cX9_alibis 222 = .ok (.istore 4, 2) := by decide +kernel
theorem dX9_alibis_224 : decode cX9_alibis 224 = .ok (.iinc 5 1, 3) := by decide +kernel
theorem dX9_alibis_227 : decode cX9_alibis 227 = .ok (.goto (-94), 3) := by decide +kernel
theorem dX9_alibis_230 : decode cX9_alibis 230 = .ok (.iload 4, 2) := by decide +kernel
theorem dX9_alibis_232 : decode cX9_alibis 232 = .ok (.ireturn, 1) := by decide +kernel
theorem dX9_reaches_0 : decode cX9_reaches 0 = .ok (.aload_n 0, 1) := by decide +kernel
theorem dX9_reaches_1 : decode cX9_reaches 1 = .ok (.getfield 19, 3) := by decide +kernel
theorem dX9_reaches_4 : decode cX9_reaches 4 = .ok (.iload_n 1, 1) := by decide +kernel
theorem dX9_reaches_5 : decode cX9_reaches 5 = .ok (.invokevirtual 233, 3) := by decide +kernel
theorem dX9_reaches_8 : decode cX9_reaches 8 = .ok (.istore_n 3, 1) := by decide +kernel
theorem dX9_reaches_9 : decode cX9_reaches 9 = .ok (.iload_n 3, 1) := by decide +kernel
theorem dX9_reaches_10 : decode cX9_reaches 10 = .ok (.ifCond .lt 12, 3) := by decide +kernel
theorem dX9_reaches_13 : decode cX9_reaches 13 = .ok (.iload_n 3, 1) := by decide +kernel
theorem dX9_reaches_14 : decode cX9_reaches 14 = .ok (.iload_n 2, 1) := by decide +kernel
theorem dX9_reaches_15 : decode cX9_reaches 15 = .ok (.if_icmp .gt 7, 3) := by decide +kernel
theorem dX9_reaches_18 : decode cX9_reaches 18 = .ok (.iconst 1, 1) := by decide +kernel
theorem dX9_reaches_19 : decode cX9_reaches 19 = .ok (.goto 4, 3) := by decide +kernel
theorem dX9_reaches_22 : decode cX9_reaches 22 = .ok (.iconst 0, 1) := by decide +kernel
theorem dX9_reaches_23 : decode cX9_reaches 23 = .ok (.ireturn, 1) := by decide +kernel
theorem dX9_bench_0 : decode cX9_bench 0 = .ok (.iload_n 1, 1) := by decide +kernel
theorem dX9_bench_1 : decode cX9_bench 1 = .ok (.iconst 2, 1) := by decide +kernel
theorem dX9_bench_2 : decode cX9_bench 2 = .ok (.bipush 6, 2) := by decide +kernel
theorem dX9_bench_4 : decode cX9_bench 4 = .ok (.invokestatic 90, 3) := by decide +kernel
theorem dX9_bench_7 : decode cX9_bench 7 = .ok (.ifCond .eq 35, 3) := by decide +kernel
theorem dX9_bench_10 : decode cX9_bench 10 = .ok (.iload_n 2, 1) := by decide +kernel
theorem dX9_bench_11 : decode cX9_bench 11 = .ok (.iconst 1, 1) := by decide +kernel
theorem dX9_bench_12 : decode cX9_bench 12 = .ok (.bipush 9, 2) := by decide +kernel
theorem dX9_bench_14 : decode cX9_bench 14 = .ok (.invokestatic 90, 3) := by decide +kernel
theorem dX9_bench_17 : decode cX9_bench 17 = .ok (.ifCond .eq 25, 3) := by decide +kernel
theorem dX9_bench_20 : decode cX9_bench 20 = .ok (.iload_n 3, 1) := by decide +kernel
theorem dX9_bench_21 : decode cX9_bench 21 = .ok (.iconst 0, 1) := by decide +kernel
theorem dX9_bench_22 : decode cX9_bench 22 = .ok (.iconst 2, 1) := by decide +kernel
theorem dX9_bench_23 : decode cX9_bench 23 = .ok (.invokestatic 90, 3) := by decide +kernel
theorem dX9_bench_26 : decode cX9_bench 26 = .ok (.ifCond .eq 16, 3) := by decide +kernel
theorem dX9_bench_29 : decode cX9_bench 29 = .ok (.aload_n 0, 1) := by decide +kernel
theorem dX9_bench_30 : decode cX9_bench 30 = .ok (.getfield 10, 3) := by decide +kernel
theorem dX9_bench_33 : decode cX9_bench 33 = .ok (.iload_n 1, 1) := by decide +kernel
theorem dX9_bench_34 : decode cX9_bench 34 = .ok (.iload_n 2, 1) := by decide +kernel
theorem dX9_bench_35 : decode cX9_bench 35 = .ok (.imul, 1) := by decide +kernel
theorem dX9_bench_36 : decode cX9_bench 36 = .ok (.invokevirtual 132, 3) := by decide +kernel
theorem dX9_bench_39 : decode cX9_bench 39 = .ok (.ifCond .ne 5, 3) := by decide +kernel
theorem dX9_bench_42 : decode cX9_bench 42 = .ok (.iconst (-1), 1) := by decide +kernel
theorem dX9_bench_43 : decode cX9_bench 43 = .ok (.ireturn, 1) := by decide +kernel
theorem dX9_bench_44 : decode cX9_bench 44 = .ok (.aload_n 0, 1) := by decide +kernel
theorem dX9_bench_45 : decode cX9_bench 45 = .ok (.getfield 10, 3) := by decide +kernel
theorem dX9_bench_48 : decode cX9_bench 48 = .ok (.iload_n 1, 1) := by decide +kernel
theorem dX9_bench_49 : decode cX9_bench 49 = .ok (.iload_n 2, 1) := by decide +kernel
theorem dX9_bench_50 : decode cX9_bench 50 = .ok (.imul, 1) := by decide +kernel
theorem dX9_bench_51 : decode cX9_bench 51 = .ok (.invokevirtual 135, 3) := by decide +kernel
theorem dX9_bench_54 : decode cX9_bench 54 = .ok (.iconst 0, 1) := by decide +kernel
theorem dX9_bench_55 : decode cX9_bench 55 = .ok (.istore 4, 2) := by decide +kernel
theorem dX9_bench_57 : decode cX9_bench 57 = .ok (.iload 4, 2) := by decide +kernel
theorem dX9_bench_59 : decode cX9_bench 59 = .ok (.iload_n 2, 1) := by decide +kernel
theorem dX9_bench_60 : decode cX9_bench 60 = .ok (.if_icmp .ge 22, 3) := by decide +kernel
theorem dX9_bench_63 : decode cX9_bench 63 = .ok (.aload_n 0, 1) := by decide +kernel
theorem dX9_bench_64 : decode cX9_bench 64 = .ok (.iload_n 1, 1) := by decide +kernel
theorem dX9_bench_65 : decode cX9_bench 65 = .ok (.iload 4, 2) := by decide +kernel
theorem dX9_bench_67 : decode cX9_bench 67 = .ok (.invokevirtual 278, 3) := by decide +kernel
theorem dX9_bench_70 : decode cX9_bench 70 = .ok (.ifCond .ne 6, 3) := by decide +kernel
theorem dX9_bench_73 : decode cX9_bench 73 = .ok (.bipush (-3), 2) := by decide +kernel
theorem dX9_bench_75 : decode cX9_bench 75 = .ok (.ireturn, 1) := by decide +kernel
theorem dX9_bench_76 : decode cX9_bench 76 = .ok (.iinc 4 1, 3) := by decide +kernel
theorem dX9_bench_79 : decode cX9_bench 79 = .ok (.goto (-22), 3) := by decide +kernel
theorem dX9_bench_82 : decode cX9_bench 82 = .ok (.iload_n 3, 1) := by decide +kernel
theorem dX9_bench_83 : decode cX9_bench 83 = .ok (.ifCond .ne 10, 3) := by decide +kernel
theorem dX9_bench_86 : decode cX9_bench 86 = .ok (.aload_n 0, 1) := by decide +kernel
theorem dX9_bench_87 : decode cX9_bench 87 = .ok (.iload_n 1, 1) := by decide +kernel
theorem dX9_bench_88 : decode cX9_bench 88 = .ok (.iload_n 2, 1) := by decide +kernel
theorem dX9_bench_89 : decode cX9_bench 89 = .ok (.invokevirtual 281, 3) := by decide +kernel
theorem dX9_bench_92 : decode cX9_bench 92 = .ok (.ireturn, 1) := by decide +kernel
theorem dX9_bench_93 : decode cX9_bench 93 = .ok (.iload_n 3, 1) := by decide +kernel
theorem dX9_bench_94 : decode cX9_bench 94 = .ok (.iconst 1, 1) := by decide +kernel
theorem dX9_bench_95 : decode cX9_bench 95 = .ok (.if_icmp .ne 12, 3) := by decide +kernel
theorem dX9_bench_98 : decode cX9_bench 98 = .ok (.aload_n 0, 1) := by decide +kernel
theorem dX9_bench_99 : decode cX9_bench 99 = .ok (.iload_n 1, 1) := by decide +kernel
theorem dX9_bench_100 : decode cX9_bench 100 = .ok (.iload_n 2, 1) := by decide +kernel
theorem dX9_bench_101 : decode cX9_bench 101 = .ok (.invokevirtual 284, 3) := by decide +kernel
theorem dX9_bench_104 : decode cX9_bench 104 = .ok (.goto 9, 3) := by decide +kernel
theorem dX9_bench_107 : decode cX9_bench 107 = .ok (.aload_n 0, 1) := by decide +kernel
theorem dX9_bench_108 : decode cX9_bench 108 = .ok (.iload_n 1, 1) := by decide +kernel
theorem dX9_bench_109 : decode cX9_bench 109 = .ok (.iload_n 2, 1) := by decide +kernel
theorem dX9_bench_110 : decode cX9_bench 110 = .ok (.invokevirtual 287, 3) := by decide +kernel
theorem dX9_bench_113 : decode cX9_bench 113 = .ok (.ireturn, 1) := by decide +kernel
theorem dX9_takesRanking_0 : decode cX9_takesRanking 0 = .ok (.iconst 0, 1) := by decide +kernel
theorem dX9_takesRanking_1 : decode cX9_takesRanking 1 = .ok (.istore_n 3, 1) := by decide +kernel
theorem dX9_takesRanking_2 : decode cX9_takesRanking 2 = .ok (.iconst 0, 1) := by decide +kernel
theorem dX9_takesRanking_3 : decode cX9_takesRanking 3 = .ok (.istore 4, 2) := by decide +kernel
theorem dX9_takesRanking_5 : decode cX9_takesRanking 5 = .ok (.iload 4, 2) := by decide +kernel
theorem dX9_takesRanking_7 : decode cX9_takesRanking 7 = .ok (.iload_n 1, 1) := by decide +kernel
theorem dX9_takesRanking_8 : decode cX9_takesRanking 8 = .ok (.if_icmp .ge 64, 3) := by decide +kernel
theorem dX9_takesRanking_11 : decode cX9_takesRanking 11 = .ok (.aload_n 0, 1) := by decide +kernel
theorem dX9_takesRanking_12 : decode cX9_takesRanking 12 = .ok (.getfield 10, 3) := by decide +kernel
theorem dX9_takesRanking_15 : decode cX9_takesRanking 15 = .ok (.iload_n 2, 1) := by decide +kernel
theorem dX9_takesRanking_16 : decode cX9_takesRanking 16 = .ok (.iload_n 1, 1) := by decide +kernel
theorem dX9_takesRanking_17 : decode cX9_takesRanking 17 = .ok (.imul, 1) := by decide +kernel
theorem dX9_takesRanking_18 : decode cX9_takesRanking 18 = .ok (.iload 4, 2) := by decide +kernel
theorem dX9_takesRanking_20 : decode cX9_takesRanking 20 = .ok (.iadd, 1) := by decide +kernel
theorem dX9_takesRanking_21 : decode cX9_takesRanking 21 = .ok (.invokevirtual 224, 3) := by decide +kernel
theorem dX9_takesRanking_24 : decode cX9_takesRanking 24 = .ok (.istore 5, 2) := by decide +kernel
theorem dX9_takesRanking_26 : decode cX9_takesRanking 26 = .ok (.iload 5, 2) := by decide +kernel
theorem dX9_takesRanking_28 : decode cX9_takesRanking 28 = .ok (.iload_n 1, 1) := by decide +kernel
theorem dX9_takesRanking_29 : decode cX9_takesRanking 29 = .ok (.if_icmp .ge 12, 3) := by decide +kernel
theorem dX9_takesRanking_32 : decode cX9_takesRanking 32 = .ok (.iload_n 3, 1) := by decide +kernel
theorem dX9_takesRanking_33 : decode cX9_takesRanking 33 = .ok (.iload 5, 2) := by decide +kernel
theorem dX9_takesRanking_35 : decode cX9_takesRanking 35 = .ok (.invokestatic 290, 3) := by decide +kernel
theorem dX9_takesRanking_38 : decode cX9_takesRanking 38 = .ok (.ifCond .eq 5, 3) := by decide +kernel
theorem dX9_takesRanking_41 : decode cX9_takesRanking 41 = .ok (.iconst 0, 1) := by decide +kernel
theorem dX9_takesRanking_42 : decode cX9_takesRanking 42 = .ok (.ireturn, 1) := by decide +kernel
theorem dX9_takesRanking_43 : decode cX9_takesRanking 43 = .ok (.iload_n 3, 1) := by decide +kernel
theorem dX9_takesRanking_44 : decode cX9_takesRanking 44 = .ok (.iconst 1, 1) := by decide +kernel
theorem dX9_takesRanking_45 : decode cX9_takesRanking 45 = .ok (.iload 5, 2) := by decide +kernel
theorem dX9_takesRanking_47 : decode cX9_takesRanking 47 = .ok (.ishl, 1) := by decide +kernel
theorem dX9_takesRanking_48 : decode cX9_takesRanking 48 = .ok (.ior, 1) := by decide +kernel
theorem dX9_takesRanking_49 : decode cX9_takesRanking 49 = .ok (.istore_n 3, 1) := by decide +kernel
theorem dX9_takesRanking_50 : decode cX9_takesRanking 50 = .ok (.aload_n 0, 1) := by decide +kernel
theorem dX9_takesRanking_51 : decode cX9_takesRanking 51 = .ok (.getfield 63, 3) := by decide +kernel
theorem dX9_takesRanking_54 : decode cX9_takesRanking 54 = .ok (.iload_n 2, 1) := by decide +kernel
theorem dX9_takesRanking_55 : decode cX9_takesRanking 55 = .ok (.bipush 6, 2) := by decide +kernel
theorem dX9_takesRanking_57 : decode cX9_takesRanking 57 = .ok (.imul, 1) := by decide +kernel
theorem dX9_takesRanking_58 : decode cX9_takesRanking 58 = .ok (.iload 5, 2) := by decide +kernel
theorem dX9_takesRanking_60 : decode cX9_takesRanking 60 = .ok (.iadd, 1) := by decide +kernel
theorem dX9_takesRanking_61 : decode cX9_takesRanking 61 = .ok (.iload 4, 2) := by decide +kernel
theorem dX9_takesRanking_63 : decode cX9_takesRanking 63 = .ok (.invokestatic 101, 3) := by decide +kernel
theorem dX9_takesRanking_66 : decode cX9_takesRanking 66 = .ok (.iinc 4 1, 3) := by decide +kernel
theorem dX9_takesRanking_69 : decode cX9_takesRanking 69 = .ok (.goto (-64), 3) := by decide +kernel
theorem dX9_takesRanking_72 : decode cX9_takesRanking 72 = .ok (.iconst 1, 1) := by decide +kernel
theorem dX9_takesRanking_73 : decode cX9_takesRanking 73 = .ok (.ireturn, 1) := by decide +kernel
theorem dX9_judgesFor_0 : decode cX9_judgesFor 0 = .ok (.iconst 0, 1) := by decide +kernel
theorem dX9_judgesFor_1 : decode cX9_judgesFor 1 = .ok (.istore 4, 2) := by decide +kernel
theorem dX9_judgesFor_3 : decode cX9_judgesFor 3 = .ok (.iconst 0, 1) := by decide +kernel
theorem dX9_judgesFor_4 : decode cX9_judgesFor 4 = .ok (.istore 5, 2) := by decide +kernel
theorem dX9_judgesFor_6 : decode cX9_judgesFor 6 = .ok (.iload 5, 2) := by decide +kernel
theorem dX9_judgesFor_8 : decode cX9_judgesFor 8 = .ok (.iload_n 3, 1) := by decide +kernel
theorem dX9_judgesFor_9 : decode cX9_judgesFor 9 = .ok (.if_icmp .ge 43, 3) := by decide +kernel
theorem dX9_judgesFor_12 : decode cX9_judgesFor 12 = .ok (.aload_n 0, 1) := by decide +kernel
theorem dX9_judgesFor_13 : decode cX9_judgesFor 13 = .ok (.getfield 63, 3) := by decide +kernel
theorem dX9_judgesFor_16 : decode cX9_judgesFor 16 = .ok (.iload 5, 2) := by decide +kernel
theorem dX9_judgesFor_18 : decode cX9_judgesFor 18 = .ok (.bipush 6, 2) := by decide +kernel
theorem dX9_judgesFor_20 : decode cX9_judgesFor 20 = .ok (.imul, 1) := by decide +kernel
theorem dX9_judgesFor_21 : decode cX9_judgesFor 21 = .ok (.iload_n 1, 1) := by decide +kernel
