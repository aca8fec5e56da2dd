theorem dX10_feels_92 : decode cX10_feels 92 = .ok (.iastore, 1) := by decide +kernel
theorem dX10_feels_93 : decode cX10_feels 93 = .ok (.aload_n 0, 1) := by decide +kernel
theorem dX10_feels_94 : decode cX10_feels 94 = .ok (.getfield 68, 3) := by decide +kernel
theorem dX10_feels_97 : decode cX10_feels 97 = .ok (.bipush 7, 2) := by decide +kernel
theorem dX10_feels_99 : decode cX10_feels 99 = .ok (.aload_n 0, 1) := by decide +kernel
theorem dX10_feels_100 : decode cX10_feels 100 = .ok (.getfield 7, 3) := by decide +kernel
theorem dX10_feels_103 : decode cX10_feels 103 = .ok (.bipush 73, 2) := by decide +kernel
theorem dX10_feels_105 : decode cX10_feels 105 = .ok (.iaload, 1) := by decide +kernel
theorem dX10_feels_106 : decode cX10_feels 106 = .ok (.iastore, 1) := by decide +kernel
theorem dX10_feels_107 : decode cX10_feels 107 = .ok (.return_, 1) := by decide +kernel
theorem dX10_readsTimes_0 : decode cX10_readsTimes 0 = .ok (.aload_n 0, 1) := by decide +kernel
theorem dX10_readsTimes_1 : decode cX10_readsTimes 1 = .ok (.aload_n 0, 1) := by decide +kernel
theorem dX10_readsTimes_2 : decode cX10_readsTimes 2 = .ok (.getfield 138, 3) := by decide +kernel
theorem dX10_readsTimes_5 : decode cX10_readsTimes 5 = .ok (.putfield 250, 3) := by decide +kernel
theorem dX10_readsTimes_8 : decode cX10_readsTimes 8 = .ok (.aload_n 0, 1) := by decide +kernel
theorem dX10_readsTimes_9 : decode cX10_readsTimes 9 = .ok (.iconst 1, 1) := by decide +kernel
theorem dX10_readsTimes_10 : decode cX10_readsTimes 10 = .ok (.putfield 253, 3) := by decide +kernel
theorem dX10_readsTimes_13 : decode cX10_readsTimes 13 = .ok (.aload_n 0, 1) := by decide +kernel
theorem dX10_readsTimes_14 : decode cX10_readsTimes 14 = .ok (.invokevirtual 144, 3) := by decide +kernel
theorem dX10_readsTimes_17 : decode cX10_readsTimes 17 = .ok (.bipush 50, 2) := by decide +kernel
theorem dX10_readsTimes_19 : decode cX10_readsTimes 19 = .ok (.bipush 57, 2) := by decide +kernel
theorem dX10_readsTimes_21 : decode cX10_readsTimes 21 = .ok (.invokestatic 112, 3) := by decide +kernel
theorem dX10_readsTimes_24 : decode cX10_readsTimes 24 = .ok (.ifCond .ne 4, 3) := by decide +kernel
theorem dX10_readsTimes_27 : decode cX10_readsTimes 27 = .ok (.return_, 1) := by decide +kernel
theorem dX10_readsTimes_28 : decode cX10_readsTimes 28 = .ok (.aload_n 0, 1) := by decide +kernel
theorem dX10_readsTimes_29 : decode cX10_readsTimes 29 = .ok (.aload_n 0, 1) := by decide +kernel
theorem dX10_readsTimes_30 : decode cX10_readsTimes 30 = .ok (.invokevirtual 144, 3) := by decide +kernel
theorem dX10_readsTimes_33 : decode cX10_readsTimes 33 = .ok (.bipush 48, 2) := by decide +kernel
theorem dX10_readsTimes_35 : decode cX10_readsTimes 35 = .ok (.isub, 1) := by decide +kernel
theorem dX10_readsTimes_36 : decode cX10_readsTimes 36 = .ok (.putfield 253, 3) := by decide +kernel
theorem dX10_readsTimes_39 : decode cX10_readsTimes 39 = .ok (.aload_n 0, 1) := by decide +kernel
theorem dX10_readsTimes_40 : decode cX10_readsTimes 40 = .ok (.aload_n 0, 1) := by decide +kernel
theorem dX10_readsTimes_41 : decode cX10_readsTimes 41 = .ok (.getfield 138, 3) := by decide +kernel
theorem dX10_readsTimes_44 : decode cX10_readsTimes 44 = .ok (.iconst 1, 1) := by decide +kernel
theorem dX10_readsTimes_45 : decode cX10_readsTimes 45 = .ok (.iadd, 1) := by decide +kernel
theorem dX10_readsTimes_46 : decode cX10_readsTimes 46 = .ok (.putfield 138, 3) := by decide +kernel
theorem dX10_readsTimes_49 : decode cX10_readsTimes 49 = .ok (.return_, 1) := by decide +kernel
theorem dX10_repeats_0 : decode cX10_repeats 0 = .ok (.aload_n 0, 1) := by decide +kernel
theorem dX10_repeats_1 : decode cX10_repeats 1 = .ok (.getfield 256, 3) := by decide +kernel
theorem dX10_repeats_4 : decode cX10_repeats 4 = .ok (.iload_n 1, 1) := by decide +kernel
theorem dX10_repeats_5 : decode cX10_repeats 5 = .ok (.isub, 1) := by decide +kernel
theorem dX10_repeats_6 : decode cX10_repeats 6 = .ok (.istore 4, 2) := by decide +kernel
theorem dX10_repeats_8 : decode cX10_repeats 8 = .ok (.iload_n 1, 1) := by decide +kernel
theorem dX10_repeats_9 : decode cX10_repeats 9 = .ok (.iload 4, 2) := by decide +kernel
theorem dX10_repeats_11 : decode cX10_repeats 11 = .ok (.iload_n 2, 1) := by decide +kernel
theorem dX10_repeats_12 : decode cX10_repeats 12 = .ok (.imul, 1) := by decide +kernel
theorem dX10_repeats_13 : decode cX10_repeats 13 = .ok (.iadd, 1) := by decide +kernel
theorem dX10_repeats_14 : decode cX10_repeats 14 = .ok (.bipush 48, 2) := by decide +kernel
theorem dX10_repeats_16 : decode cX10_repeats 16 = .ok (.if_icmp .le 11, 3) := by decide +kernel
theorem dX10_repeats_19 : decode cX10_repeats 19 = .ok (.aload_n 0, 1) := by decide +kernel
theorem dX10_repeats_20 : decode cX10_repeats 20 = .ok (.bipush 6, 2) := by decide +kernel
theorem dX10_repeats_22 : decode cX10_repeats 22 = .ok (.iload_n 3, 1) := by decide +kernel
theorem dX10_repeats_23 : decode cX10_repeats 23 = .ok (.invokevirtual 151, 3) := by decide +kernel
theorem dX10_repeats_26 : decode cX10_repeats 26 = .ok (.ireturn, 1) := by decide +kernel
theorem dX10_repeats_27 : decode cX10_repeats 27 = .ok (.iload 4, 2) := by decide +kernel
theorem dX10_repeats_29 : decode cX10_repeats 29 = .ok (.istore 5, 2) := by decide +kernel
theorem dX10_repeats_31 : decode cX10_repeats 31 = .ok (.iload 5, 2) := by decide +kernel
theorem dX10_repeats_33 : decode cX10_repeats 33 = .ok (.iload 4, 2) := by decide +kernel
theorem dX10_repeats_35 : decode cX10_repeats 35 = .ok (.iload_n 2, 1) := by decide +kernel
theorem dX10_repeats_36 : decode cX10_repeats 36 = .ok (.imul, 1) := by decide +kernel
theorem dX10_repeats_37 : decode cX10_repeats 37 = .ok (.if_icmp .ge 30, 3) := by decide +kernel
theorem dX10_repeats_40 : decode cX10_repeats 40 = .ok (.aload_n 0, 1) := by decide +kernel
theorem dX10_repeats_41 : decode cX10_repeats 41 = .ok (.getfield 71, 3) := by decide +kernel
theorem dX10_repeats_44 : decode cX10_repeats 44 = .ok (.iload_n 1, 1) := by decide +kernel
theorem dX10_repeats_45 : decode cX10_repeats 45 = .ok (.iload 5, 2) := by decide +kernel
theorem dX10_repeats_47 : decode cX10_repeats 47 = .ok (.iadd, 1) := by decide +kernel
theorem dX10_repeats_48 : decode cX10_repeats 48 = .ok (.aload_n 0, 1) := by decide +kernel
theorem dX10_repeats_49 : decode cX10_repeats 49 = .ok (.getfield 71, 3) := by decide +kernel
theorem dX10_repeats_52 : decode cX10_repeats 52 = .ok (.iload_n 1, 1) := by decide +kernel
theorem dX10_repeats_53 : decode cX10_repeats 53 = .ok (.iload 5, 2) := by decide +kernel
theorem dX10_repeats_55 : decode cX10_repeats 55 = .ok (.iadd, 1) := by decide +kernel
theorem dX10_repeats_56 : decode cX10_repeats 56 = .ok (.iload 4, 2) := by decide +kernel
theorem dX10_repeats_58 : decode cX10_repeats 58 = .ok (.isub, 1) := by decide +kernel
theorem dX10_repeats_59 : decode cX10_repeats 59 = .ok (.iaload, 1) := by decide +kernel
theorem dX10_repeats_60 : decode cX10_repeats 60 = .ok (.iastore, 1) := by decide +kernel
theorem dX10_repeats_61 : decode cX10_repeats 61 = .ok (.iinc 5 1, 3) := by decide +kernel
theorem dX10_repeats_64 : decode cX10_repeats 64 = .ok (.goto (-33), 3) := by decide +kernel
theorem dX10_repeats_67 : decode cX10_repeats 67 = .ok (.aload_n 0, 1) := by decide +kernel
theorem dX10_repeats_68 : decode cX10_repeats 68 = .ok (.iload_n 1, 1) := by decide +kernel
theorem dX10_repeats_69 : decode cX10_repeats 69 = .ok (.iload 4, 2) := by decide +kernel
theorem dX10_repeats_71 : decode cX10_repeats 71 = .ok (.iload_n 2, 1) := by decide +kernel
theorem dX10_repeats_72 : decode cX10_repeats 72 = .ok (.imul, 1) := by decide +kernel
theorem dX10_repeats_73 : decode cX10_repeats 73 = .ok (.iadd, 1) := by decide +kernel
theorem dX10_repeats_74 : decode cX10_repeats 74 = .ok (.putfield 256, 3) := by decide +kernel
theorem dX10_repeats_77 : decode cX10_repeats 77 = .ok (.iconst 1, 1) := by decide +kernel
theorem dX10_repeats_78 : decode cX10_repeats 78 = .ok (.ireturn, 1) := by decide +kernel
theorem dX10_readsStep_0 : decode cX10_readsStep 0 = .ok (.aload_n 0, 1) := by decide +kernel
theorem dX10_readsStep_1 : decode cX10_readsStep 1 = .ok (.invokevirtual 259, 3) := by decide +kernel
theorem dX10_readsStep_4 : decode cX10_readsStep 4 = .ok (.aload_n 0, 1) := by decide +kernel
theorem dX10_readsStep_5 : decode cX10_readsStep 5 = .ok (.invokevirtual 144, 3) := by decide +kernel
theorem dX10_readsStep_8 : decode cX10_readsStep 8 = .ok (.bipush 40, 2) := by decide +kernel
theorem dX10_readsStep_10 : decode cX10_readsStep 10 = .ok (.if_icmp .ne 87, 3) := by decide +kernel
theorem dX10_readsStep_13 : decode cX10_readsStep 13 = .ok (.aload_n 0, 1) := by decide +kernel
theorem dX10_readsStep_14 : decode cX10_readsStep 14 = .ok (.getfield 262, 3) := by decide +kernel
theorem dX10_readsStep_17 : decode cX10_readsStep 17 = .ok (.iconst 2, 1) := by decide +kernel
theorem dX10_readsStep_18 : decode cX10_readsStep 18 = .ok (.if_icmp .ne 13, 3) := by decide +kernel
theorem dX10_readsStep_21 : decode cX10_readsStep 21 = .ok (.aload_n 0, 1) := by decide +kernel
theorem dX10_readsStep_22 : decode cX10_readsStep 22 = .ok (.iconst 5, 1) := by decide +kernel
theorem dX10_readsStep_23 : decode cX10_readsStep 23 = .ok (.aload_n 0, 1) := by decide +kernel
theorem dX10_readsStep_24 : decode cX10_readsStep 24 = .ok (.getfield 138, 3) := by decide +kernel
theorem dX10_readsStep_27 : decode cX10_readsStep 27 = .ok (.invokevirtual 151, 3) := by decide +kernel
theorem dX10_readsStep_30 : decode cX10_readsStep 30 = .ok (.ireturn, 1) := by decide +kernel
theorem dX10_readsStep_31 : decode cX10_readsStep 31 = .ok (.aload_n 0, 1) := by decide +kernel
theorem dX10_readsStep_32 : decode cX10_readsStep 32 = .ok (.getfield 74, 3) := by decide +kernel
theorem dX10_readsStep_35 : decode cX10_readsStep 35 = .ok (.aload_n 0, 1) := by decide +kernel
theorem dX10_readsStep_36 : decode cX10_readsStep 36 = .ok (.getfield 262, 3) := by decide +kernel
theorem dX10_readsStep_39 : decode cX10_readsStep 39 = .ok (.aload_n 0, 1) := by decide +kernel
theorem dX10_readsStep_40 : decode cX10_readsStep 40 = .ok (.getfield 250, 3) := by decide +kernel
theorem dX10_readsStep_43 : decode cX10_readsStep 43 = .ok (.iastore, 1) := by decide +kernel
theorem dX10_readsStep_44 : decode cX10_readsStep 44 = .ok (.aload_n 0, 1) := by decide +kernel
theorem dX10_readsStep_45 : decode cX10_readsStep 45 = .ok (.getfield 77, 3) := by decide +kernel
theorem dX10_readsStep_48 : decode cX10_readsStep 48 = .ok (.aload_n 0, 1) := by decide +kernel
theorem dX10_readsStep_49 : decode cX10_readsStep 49 = .ok (.getfield 262, 3) := by decide +kernel
theorem dX10_readsStep_52 : decode cX10_readsStep 52 = .ok (.aload_n 0, 1) := by decide +kernel
theorem dX10_readsStep_53 : decode cX10_readsStep 53 = .ok (.getfield 256, 3) := by decide +kernel
theorem dX10_readsStep_56 : decode cX10_readsStep 56 = .ok (.iastore, 1) := by decide +kernel
theorem dX10_readsStep_57 : decode cX10_readsStep 57 = .ok (.aload_n 0, 1) := by decide +kernel
theorem dX10_readsStep_58 : decode cX10_readsStep 58 = .ok (.getfield 80, 3) := by decide +kernel
theorem dX10_readsStep_61 : decode cX10_readsStep 61 = .ok (.aload_n 0, 1) := by decide +kernel
theorem dX10_readsStep_62 : decode cX10_readsStep 62 = .ok (.getfield 262, 3) := by decide +kernel
theorem dX10_readsStep_65 : decode cX10_readsStep 65 = .ok (.aload_n 0, 1) := by decide +kernel
theorem dX10_readsStep_66 : decode cX10_readsStep 66 = .ok (.getfield 253, 3) := by decide +kernel
theorem dX10_readsStep_69 : decode cX10_readsStep 69 = .ok (.iastore, 1) := by decide +kernel
theorem dX10_readsStep_70 : decode cX10_readsStep 70 = .ok (.aload_n 0, 1) := by decide +kernel
theorem dX10_readsStep_71 : decode cX10_readsStep 71 = .ok (.aload_n 0, 1) := by decide +kernel
theorem dX10_readsStep_72 : decode cX10_readsStep 72 = .ok (.getfield 262, 3) := by decide +kernel
theorem dX10_readsStep_75 : decode cX10_readsStep 75 = .ok (.iconst 1, 1) := by decide +kernel
theorem dX10_readsStep_76 : decode cX10_readsStep 76 = .ok (.iadd, 1) := by decide +kernel
theorem dX10_readsStep_77 : decode cX10_readsStep 77 = .ok (.putfield 262, 3) := by decide +kernel
theorem dX10_readsStep_80 : decode cX10_readsStep 80 = .ok (.aload_n 0, 1) := by decide +kernel
theorem dX10_readsStep_81 : decode cX10_readsStep 81 = .ok (.aload_n 0, 1) := by decide +kernel
theorem dX10_readsStep_82 : decode cX10_readsStep 82 = .ok (.getfield 138, 3) := by decide +kernel
theorem dX10_readsStep_85 : decode cX10_readsStep 85 = .ok (.iconst 1, 1) := by decide +kernel
theorem dX10_readsStep_86 : decode cX10_readsStep 86 = .ok (.iadd, 1) := by decide +kernel
theorem dX10_readsStep_87 : decode cX10_readsStep 87 = .ok (.putfield 138, 3) := by decide +kernel
theorem dX10_readsStep_90 : decode cX10_readsStep 90 = .ok (.aload_n 0, 1) := by decide +kernel
theorem dX10_readsStep_91 : decode cX10_readsStep 91 = .ok (.invokevirtual 259, 3) := by decide +kernel
theorem dX10_readsStep_94 : decode cX10_readsStep 94 = .ok (.goto (-90), 3) := by decide +kernel
theorem dX10_readsStep_97 : decode cX10_readsStep 97 = .ok (.aload_n 0, 1) := by decide +kernel
theorem dX10_readsStep_98 : decode cX10_readsStep 98 = .ok (.getfield 250, 3) := by decide +kernel
theorem dX10_readsStep_101 : decode cX10_readsStep 101 = .ok (.istore_n 1, 1) := by decide +kernel
theorem dX10_readsStep_102 : decode cX10_readsStep 102 = .ok (.aload_n 0, 1) := by decide +kernel
theorem dX10_readsStep_103 : decode cX10_readsStep 103 = .ok (.getfield 253, 3) := by decide +kernel
theorem dX10_readsStep_106 : decode cX10_readsStep 106 = .ok (.istore_n 2, 1) := by decide +kernel
theorem dX10_readsStep_107 : decode cX10_readsStep 107 = .ok (.aload_n 0, 1) := by decide +kernel
theorem dX10_readsStep_108 : decode cX10_readsStep 108 = .ok (.invokevirtual 144, 3) := by decide +kernel
theorem dX10_readsStep_111 : decode cX10_readsStep 111 = .ok (.istore_n 3, 1) := by decide +kernel
theorem dX10_readsStep_112 : decode cX10_readsStep 112 = .ok (.iload_n 3, 1) := by decide +kernel
theorem dX10_readsStep_113 : decode cX10_readsStep 113 = .ok (.bipush 46, 2) := by decide +kernel
theorem dX10_readsStep_115 : decode cX10_readsStep 115 = .ok (.if_icmp .eq 24, 3) := by decide +kernel
theorem dX10_readsStep_118 : decode cX10_readsStep 118 = .ok (.iload_n 3, 1) := by decide +kernel
theorem dX10_readsStep_119 : decode cX10_readsStep 119 = .ok (.bipush 97, 2) := by decide +kernel
theorem dX10_readsStep_121 : decode cX10_readsStep 121 = .ok (.bipush 112, 2) := by decide +kernel
theorem dX10_readsStep_123 : decode cX10_readsStep 123 = .ok (.invokestatic 112, 3) := by decide +kernel
theorem dX10_readsStep_126 : decode cX10_readsStep 126 = .ok (.ifCond .ne 13, 3) := by decide +kernel
theorem dX10_readsStep_129 : decode cX10_readsStep 129 = .ok (.aload_n 0, 1) := by decide +kernel
theorem dX10_readsStep_130 : decode cX10_readsStep 130 = .ok (.iconst 1, 1) := by decide +kernel
theorem dX10_readsStep_131 : decode cX10_readsStep 131 = .ok (.aload_n 0, 1) := by decide +kernel
theorem dX10_readsStep_132 : decode cX10_readsStep 132 = .ok (.getfield 138, 3) := by decide +kernel
theorem dX10_readsStep_135 : decode cX10_readsStep 135 = .ok (.invokevirtual 151, 3) := by decide +kernel
theorem dX10_readsStep_138 : decode cX10_readsStep 138 = .ok (.ireturn, 1) := by decide +kernel
theorem dX10_readsStep_139 : decode cX10_readsStep 139 = .ok (.aload_n 0, 1) := by decide +kernel
theorem dX10_readsStep_140 : decode cX10_readsStep 140 = .ok (.getfield 256, 3) := by decide +kernel
theorem dX10_readsStep_143 : decode cX10_readsStep 143 = .ok (.iload_n 2, 1) := by decide +kernel
theorem dX10_readsStep_144 : decode cX10_readsStep 144 = .ok (.iadd, 1) := by decide +kernel
theorem dX10_readsStep_145 : decode cX10_readsStep 145 = .ok (.bipush 48, 2) := by decide +kernel
theorem dX10_readsStep_147 : decode cX10_readsStep 147 = .ok (.if_icmp .le 11, 3) := by decide +kernel
theorem dX10_readsStep_150 : decode cX10_readsStep 150 = .ok (.aload_n 0, 1) := by decide +kernel
theorem dX10_readsStep_151 : decode cX10_readsStep 151 = .ok (.bipush 6, 2) := by decide +kernel
theorem dX10_readsStep_153 : decode cX10_readsStep 153 = .ok (.iload_n 1, 1) := by decide +kernel
theorem dX10_readsStep_154 : decode cX10_readsStep 154 = .ok (.invokevirtual 151, 3) := by decide +kernel
theorem dX10_readsStep_157 : decode cX10_readsStep 157 = .ok (.ireturn, 1) := by decide +kernel
theorem dX10_readsStep_158 : decode cX10_readsStep 158 = .ok (.aload_n 0, 1) := by decide +kernel
theorem dX10_readsStep_159 : decode cX10_readsStep 159 = .ok (.aload_n 0, 1) := by decide +kernel
theorem dX10_readsStep_160 : decode cX10_readsStep 160 = .ok (.getfield 138, 3) := by decide +kernel
theorem dX10_readsStep_163 : decode cX10_readsStep 163 = .ok (.iconst 1, 1) := by decide +kernel
theorem dX10_readsStep_164 : decode cX10_readsStep 164 = .ok (.iadd, 1) := by decide +kernel
theorem dX10_readsStep_165 : decode cX10_readsStep 165 = .ok (.putfield 138, 3) := by decide +kernel
theorem dX10_readsStep_168 : decode cX10_readsStep 168 = .ok (.aload_n 0, 1) := by decide +kernel
theorem dX10_readsStep_169 : decode cX10_readsStep 169 = .ok (.getfield 71, 3) := by decide +kernel
theorem dX10_readsStep_172 : decode cX10_readsStep 172 = .ok (.aload_n 0, 1) := by decide +kernel
theorem dX10_readsStep_173 : decode cX10_readsStep 173 = .ok (.getfield 256, 3) := by decide +kernel
theorem dX10_readsStep_176 : decode cX10_readsStep 176 = .ok (.iload_n 3, 1) := by decide +kernel
theorem dX10_readsStep_177 : decode cX10_readsStep 177 = .ok (.bipush 46, 2) := by decide +kernel
theorem dX10_readsStep_179 : decode cX10_readsStep 179 = .ok (.if_icmp .ne 7, 3) := by decide +kernel
theorem dX10_readsStep_182 : decode cX10_readsStep 182 = .ok (.iconst (-1), 1) := by decide +kernel
theorem dX10_readsStep_183 : decode cX10_readsStep 183 = .ok (.goto 7, 3) := by decide +kernel
theorem dX10_readsStep_186 : decode cX10_readsStep 186 = .ok (.iload_n 3, 1) := by decide +kernel
theorem dX10_readsStep_187 : decode cX10_readsStep 187 = .ok (.bipush 97, 2) := by decide +kernel
theorem dX10_readsStep_189 : decode cX10_readsStep 189 = .ok (.isub, 1) := by decide +kernel
theorem dX10_readsStep_190 : decode cX10_readsStep 190 = .ok (.iastore, 1) := by decide +kernel
theorem dX10_readsStep_191 : decode cX10_readsStep 191 = .ok (.aload_n 0, 1) := by decide +kernel
theorem dX10_readsStep_192 : decode cX10_readsStep 192 = .ok (.aload_n 0, 1) := by decide +kernel
theorem dX10_readsStep_193 : decode cX10_readsStep 193 = .ok (.getfield 256, 3) := by decide +kernel
theorem dX10_readsStep_196 : decode cX10_readsStep 196 = .ok (.iconst 1, 1) := by decide +kernel
theorem dX10_readsStep_197 : decode cX10_readsStep 197 = .ok (.iadd, 1) := by decide +kernel
theorem dX10_readsStep_198 : decode cX10_readsStep 198 = .ok (.putfield 256, 3) := by decide +kernel
theorem dX10_readsStep_201 : decode cX10_readsStep 201 = .ok (.aload_n 0, 1) := by decide +kernel
theorem dX10_readsStep_202 : decode cX10_readsStep 202 = .ok (.aload_n 0, 1) := by decide +kernel
theorem dX10_readsStep_203 : decode cX10_readsStep 203 = .ok (.getfield 256, 3) := by decide +kernel
theorem dX10_readsStep_206 : decode cX10_readsStep 206 = .ok (.iconst 1, 1) := by decide +kernel
theorem dX10_readsStep_207 : decode cX10_readsStep 207 = .ok (.isub, 1) := by decide +kernel
theorem dX10_readsStep_208 : decode cX10_readsStep 208 = .ok (.iload_n 2, 1) := by decide +kernel
theorem dX10_readsStep_209 : decode cX10_readsStep 209 = .ok (.iload_n 1, 1) := by decide +kernel
theorem dX10_readsStep_210 : decode cX10_readsStep 210 = .ok (.invokevirtual 265, 3) := by decide +kernel
theorem dX10_readsStep_213 : decode cX10_readsStep 213 = .ok (.ifCond .ne 5, 3) := by decide +kernel
theorem dX10_readsStep_216 : decode cX10_readsStep 216 = .ok (.iconst 0, 1) := by decide +kernel
theorem dX10_readsStep_217 : decode cX10_readsStep 217 = .ok (.ireturn, 1) := by decide +kernel
theorem dX10_readsStep_218 : decode cX10_readsStep 218 = .ok (.aload_n 0, 1) := by decide +kernel
theorem dX10_readsStep_219 : decode cX10_readsStep 219 = .ok (.invokevirtual 144, 3) := by decide +kernel
theorem dX10_readsStep_222 : decode cX10_readsStep 222 = .ok (.bipush 41, 2) := by decide +kernel
theorem dX10_readsStep_224 : decode cX10_readsStep 224 = .ok (.if_icmp .ne 66, 3) := by decide +kernel
theorem dX10_readsStep_227 : decode cX10_readsStep 227 = .ok (.aload_n 0, 1) := by decide +kernel
theorem dX10_readsStep_228 : decode cX10_readsStep 228 = .ok (.getfield 262, 3) := by decide +kernel
theorem dX10_readsStep_231 : decode cX10_readsStep 231 = .ok (.ifCond .le 59, 3) := by decide +kernel
theorem dX10_readsStep_234 : decode cX10_readsStep 234 = .ok (.aload_n 0, 1) := by decide +kernel
theorem dX10_readsStep_235 : decode cX10_readsStep 235 = .ok (.aload_n 0, 1) := by decide +kernel
theorem dX10_readsStep_236 : decode cX10_readsStep 236 = .ok (.getfield 138, 3) := by decide +kernel
theorem dX10_readsStep_239 : decode cX10_readsStep 239 = .ok (.iconst 1, 1) := by decide +kernel
theorem dX10_readsStep_240 : decode cX10_readsStep 240 = .ok (.iadd, 1) := by decide +kernel
theorem dX10_readsStep_241 : decode cX10_readsStep 241 = .ok (.putfield 138, 3) := by decide +kernel
theorem dX10_readsStep_244 : decode cX10_readsStep 244 = .ok (.aload_n 0, 1) := by decide +kernel
theorem dX10_readsStep_245 : decode cX10_readsStep 245 = .ok (.aload_n 0, 1) := by decide +kernel
theorem dX10_readsStep_246 : decode cX10_readsStep 246 = .ok (.getfield 262, 3) := by decide +kernel
theorem dX10_readsStep_249 : decode cX10_readsStep 249 = .ok (.iconst 1, 1) := by decide +kernel
theorem dX10_readsStep_250 : decode cX10_readsStep 250 = .ok (.isub, 1) := by decide +kernel
theorem dX10_readsStep_251 : decode cX10_readsStep 251 = .ok (.putfield 262, 3) := by decide +kernel
theorem dX10_readsStep_254 : decode cX10_readsStep 254 = .ok (.aload_n 0, 1) := by decide +kernel
theorem dX10_readsStep_255 : decode cX10_readsStep 255 = .ok (.aload_n 0, 1) := by decide +kernel
theorem dX10_readsStep_256 : decode cX10_readsStep 256 = .ok (.getfield 77, 3) := by decide +kernel
theorem dX10_readsStep_259 : decode cX10_readsStep 259 = .ok (.aload_n 0, 1) := by decide +kernel
theorem dX10_readsStep_260 : decode cX10_readsStep 260 = .ok (.getfield 262, 3) := by decide +kernel
theorem dX10_readsStep_263 : decode cX10_readsStep 263 = .ok (.iaload, 1) := by decide +kernel
theorem dX10_readsStep_264 : decode cX10_readsStep 264 = .ok (.aload_n 0, 1) := by decide +kernel
theorem dX10_readsStep_265 : decode cX10_readsStep 265 = .ok (.getfield 80, 3) := by decide +kernel
theorem dX10_readsStep_268 : decode cX10_readsStep 268 = .ok (.aload_n 0, 1) := by decide +kernel
theorem dX10_readsStep_269 : decode cX10_readsStep 269 = .ok (.getfield 262, 3) := by decide +kernel
theorem dX10_readsStep_272 : decode cX10_readsStep 272 = .ok (.iaload, 1) := by decide +kernel
theorem dX10_readsStep_273 : decode cX10_readsStep 273 = .ok (.aload_n 0, 1) := by decide +kernel
theorem dX10_readsStep_274 : decode cX10_readsStep 274 = .ok (.getfield 74, 3) := by decide +kernel
theorem dX10_readsStep_277 : decode cX10_readsStep 277 = .ok (.aload_n 0, 1) := by decide +kernel
theorem dX10_readsStep_278 : decode cX10_readsStep 278 = .ok (.getfield 262, 3) := by decide +kernel
theorem dX10_readsStep_281 : decode cX10_readsStep 281 = .ok (.iaload, 1) := by decide +kernel
theorem dX10_readsStep_282 : decode cX10_readsStep 282 = .ok (.invokevirtual 265, 3) := by decide +kernel
theorem dX10_readsStep_285 : decode cX10_readsStep 285 = .ok (.ifCond .ne (-67), 3) := by decide +kernel
theorem dX10_readsStep_288 : decode cX10_readsStep 288 = .ok (.iconst 0, 1) := by decide +kernel
theorem dX10_readsStep_289 : decode cX10_readsStep 289 = .ok (.ireturn, 1) := by decide +kernel
theorem dX10_readsStep_290 : decode cX10_readsStep 290 = .ok (.iconst 1, 1) := by decide +kernel
theorem dX10_readsStep_291 : decode cX10_readsStep 291 = .ok (.ireturn, 1) := by decide +kernel
theorem dX10_beat_0 : decode cX10_beat 0 = .ok (.iload_n 1, 1) := by decide +kernel
theorem dX10_beat_1 : decode cX10_beat 1 = .ok (.iconst 0, 1) := by decide +kernel
theorem dX10_beat_2 : decode cX10_beat 2 = .ok (.bipush 7, 2) := by decide +kernel
theorem dX10_beat_4 : decode cX10_beat 4 = .ok (.invokestatic 112, 3) := by decide +kernel
theorem dX10_beat_7 : decode cX10_beat 7 = .ok (.ifCond .eq 21, 3) := by decide +kernel
theorem dX10_beat_10 : decode cX10_beat 10 = .ok (.iload_n 2, 1) := by decide +kernel
theorem dX10_beat_11 : decode cX10_beat 11 = .ok (.iconst 1, 1) := by decide +kernel
theorem dX10_beat_12 : decode cX10_beat 12 = .ok (.bipush 60, 2) := by decide +kernel
theorem dX10_beat_14 : decode cX10_beat 14 = .ok (.invokestatic 112, 3) := by decide +kernel
theorem dX10_beat_17 : decode cX10_beat 17 = .ok (.ifCond .eq 11, 3) := by decide +kernel
theorem dX10_beat_20 : decode cX10_beat 20 = .ok (.iload_n 2, 1) := by decide +kernel
theorem dX10_beat_21 : decode cX10_beat 21 = .ok (.aload_n 0, 1) := by decide +kernel
theorem dX10_beat_22 : decode cX10_beat 22 = .ok (.getfield 131, 3) := by decide +kernel
theorem dX10_beat_25 : decode cX10_beat 25 = .ok (.if_icmp .le 5, 3) := by decide +kernel
theorem dX10_beat_28 : decode cX10_beat 28 = .ok (.iconst (-1), 1) := by decide +kernel
theorem dX10_beat_29 : decode cX10_beat 29 = .ok (.ireturn, 1) := by decide +kernel
theorem dX10_beat_30 : decode cX10_beat 30 = .ok (.aload_n 0, 1) := by decide +kernel
theorem dX10_beat_31 : decode cX10_beat 31 = .ok (.iload_n 2, 1) := by decide +kernel
theorem dX10_beat_32 : decode cX10_beat 32 = .ok (.invokevirtual 221, 3) := by decide +kernel
theorem dX10_beat_35 : decode cX10_beat 35 = .ok (.aload_n 0, 1) := by decide +kernel
theorem dX10_beat_36 : decode cX10_beat 36 = .ok (.iconst 0, 1) := by decide +kernel
theorem dX10_beat_37 : decode cX10_beat 37 = .ok (.putfield 256, 3) := by decide +kernel
theorem dX10_beat_40 : decode cX10_beat 40 = .ok (.aload_n 0, 1) := by decide +kernel
theorem dX10_beat_41 : decode cX10_beat 41 = .ok (.iconst 0, 1) := by decide +kernel
theorem dX10_beat_42 : decode cX10_beat 42 = .ok (.putfield 262, 3) := by decide +kernel
theorem dX10_beat_45 : decode cX10_beat 45 = .ok (.aload_n 0, 1) := by decide +kernel
theorem dX10_beat_46 : decode cX10_beat 46 = .ok (.invokevirtual 268, 3) := by decide +kernel
theorem dX10_beat_49 : decode cX10_beat 49 = .ok (.istore_n 3, 1) := by decide +kernel
theorem dX10_beat_50 : decode cX10_beat 50 = .ok (.iload_n 3, 1) := by decide +kernel
theorem dX10_beat_51 : decode cX10_beat 51 = .ok (.ifCond .eq 29, 3) := by decide +kernel
theorem dX10_beat_54 : decode cX10_beat 54 = .ok (.aload_n 0, 1) := by decide +kernel
theorem dX10_beat_55 : decode cX10_beat 55 = .ok (.getfield 138, 3) := by decide +kernel
theorem dX10_beat_58 : decode cX10_beat 58 = .ok (.aload_n 0, 1) := by decide +kernel
theorem dX10_beat_59 : decode cX10_beat 59 = .ok (.getfield 141, 3) := by decide +kernel
theorem dX10_beat_62 : decode cX10_beat 62 = .ok (.if_icmp .lt 10, 3) := by decide +kernel
theorem dX10_beat_65 : decode cX10_beat 65 = .ok (.aload_n 0, 1) := by decide +kernel
theorem dX10_beat_66 : decode cX10_beat 66 = .ok (.getfield 262, 3) := by decide +kernel
theorem dX10_beat_69 : decode cX10_beat 69 = .ok (.ifCond .le 11, 3) := by decide +kernel
theorem dX10_beat_72 : decode cX10_beat 72 = .ok (.aload_n 0, 1) := by decide +kernel
theorem dX10_beat_73 : decode cX10_beat 73 = .ok (.invokevirtual 268, 3) := by decide +kernel
theorem dX10_beat_76 : decode cX10_beat 76 = .ok (.istore_n 3, 1) := by decide +kernel
theorem dX10_beat_77 : decode cX10_beat 77 = .ok (.goto (-27), 3) := by decide +kernel
theorem dX10_beat_80 : decode cX10_beat 80 = .ok (.aload_n 0, 1) := by decide +kernel
theorem dX10_beat_81 : decode cX10_beat 81 = .ok (.iconst 0, 1) := by decide +kernel
theorem dX10_beat_82 : decode cX10_beat 82 = .ok (.putfield 131, 3) := by decide +kernel
theorem dX10_beat_85 : decode cX10_beat 85 = .ok (.iload_n 3, 1) := by decide +kernel
theorem dX10_beat_86 : decode cX10_beat 86 = .ok (.ifCond .ne 8, 3) := by decide +kernel
theorem dX10_beat_89 : decode cX10_beat 89 = .ok (.aload_n 0, 1) := by decide +kernel
theorem dX10_beat_90 : decode cX10_beat 90 = .ok (.getfield 148, 3) := by decide +kernel
theorem dX10_beat_93 : decode cX10_beat 93 = .ok (.ireturn, 1) := by decide +kernel
theorem dX10_beat_94 : decode cX10_beat 94 = .ok (.aload_n 0, 1) := by decide +kernel
theorem dX10_beat_95 : decode cX10_beat 95 = .ok (.getfield 22, 3) := by decide +kernel
theorem dX10_beat_98 : decode cX10_beat 98 = .ok (.iload_n 1, 1) := by decide +kernel
theorem dX10_beat_99 : decode cX10_beat 99 = .ok (.aload_n 0, 1) := by decide +kernel
theorem dX10_beat_100 : decode cX10_beat 100 = .ok (.getfield 256, 3) := by decide +kernel
theorem dX10_beat_103 : decode cX10_beat 103 = .ok (.iastore, 1) := by decide +kernel
theorem dX10_beat_104 : decode cX10_beat 104 = .ok (.iconst 0, 1) := by decide +kernel
theorem dX10_beat_105 : decode cX10_beat 105 = .ok (.istore 4, 2) := by decide +kernel
theorem dX10_beat_107 : decode cX10_beat 107 = .ok (.iload 4, 2) := by decide +kernel
theorem dX10_beat_109 : decode cX10_beat 109 = .ok (.aload_n 0, 1) := by decide +kernel
theorem dX10_beat_110 : decode cX10_beat 110 = .ok (.getfield 256, 3) := by decide +kernel
theorem dX10_beat_113 : decode cX10_beat 113 = .ok (.if_icmp .ge 28, 3) := by decide +kernel
theorem dX10_beat_116 : decode cX10_beat 116 = .ok (.aload_n 0, 1) := by decide +kernel
theorem dX10_beat_117 : decode cX10_beat 117 = .ok (.getfield 25, 3) := by decide +kernel
theorem dX10_beat_120 : decode cX10_beat 120 = .ok (.bipush 48, 2) := by decide +kernel
theorem dX10_beat_122 : decode cX10_beat 122 = .ok (.iload_n 1, 1) := by decide +kernel
theorem dX10_beat_123 : decode cX10_beat 123 = .ok (.imul, 1) := by decide +kernel
theorem dX10_beat_124 : decode cX10_beat 124 = .ok (.iload 4, 2) := by decide +kernel
theorem dX10_beat_126 : decode cX10_beat 126 = .ok (.iadd, 1) := by decide +kernel
theorem dX10_beat_127 : decode cX10_beat 127 = .ok (.aload_n 0, 1) := by decide +kernel
theorem dX10_beat_128 : decode cX10_beat 128 = .ok (.getfield 71, 3) := by decide +kernel
theorem dX10_beat_131 : decode cX10_beat 131 = .ok (.iload 4, 2) := by decide +kernel
theorem dX10_beat_133 : decode cX10_beat 133 = .ok (.iaload, 1) := by decide +kernel
theorem dX10_beat_134 : decode cX10_beat 134 = .ok (.iastore, 1) := by decide +kernel
theorem dX10_beat_135 : decode cX10_beat 135 = .ok (.iinc 4 1, 3) := by decide +kernel
theorem dX10_beat_138 : decode cX10_beat 138 = .ok (.goto (-31), 3) := by decide +kernel
theorem dX10_beat_141 : decode cX10_beat 141 = .ok (.aload_n 0, 1) := by decide +kernel
theorem dX10_beat_142 : decode cX10_beat 142 = .ok (.getfield 256, 3) := by decide +kernel
theorem dX10_beat_145 : decode cX10_beat 145 = .ok (.ireturn, 1) := by decide +kernel
theorem dX10_isLetter_0 : decode cX10_isLetter 0 = .ok (.aload_n 0, 1) := by decide +kernel
theorem dX10_isLetter_1 : decode cX10_isLetter 1 = .ok (.invokevirtual 144, 3) := by decide +kernel
theorem dX10_isLetter_4 : decode cX10_isLetter 4 = .ok (.bipush 97, 2) := by decide +kernel
theorem dX10_isLetter_6 : decode cX10_isLetter 6 = .ok (.isub, 1) := by decide +kernel
theorem dX10_isLetter_7 : decode cX10_isLetter 7 = .ok (.iconst 0, 1) := by decide +kernel
theorem dX10_isLetter_8 : decode cX10_isLetter 8 = .ok (.bipush 15, 2) := by decide +kernel
theorem dX10_isLetter_10 : decode cX10_isLetter 10 = .ok (.invokestatic 112, 3) := by decide +kernel
theorem dX10_isLetter_13 : decode cX10_isLetter 13 = .ok (.ireturn, 1) := by decide +kernel
theorem dX10_readsAmount_0 : decode cX10_readsAmount 0 = .ok (.aload_n 0, 1) := by decide +kernel
theorem dX10_readsAmount_1 : decode cX10_readsAmount 1 = .ok (.getfield 138, 3) := by decide +kernel
theorem dX10_readsAmount_4 : decode cX10_readsAmount 4 = .ok (.istore_n 2, 1) := by decide +kernel
theorem dX10_readsAmount_5 : decode cX10_readsAmount 5 = .ok (.aload_n 0, 1) := by decide +kernel
theorem dX10_readsAmount_6 : decode cX10_readsAmount 6 = .ok (.invokevirtual 157, 3) := by decide +kernel
theorem dX10_readsAmount_9 : decode cX10_readsAmount 9 = .ok (.ifCond .ne 13, 3) := by decide +kernel
theorem dX10_readsAmount_12 : decode cX10_readsAmount 12 = .ok (.aload_n 0, 1) := by decide +kernel
theorem dX10_readsAmount_13 : decode cX10_readsAmount 13 = .ok (.iconst 1, 1) := by decide +kernel
theorem dX10_readsAmount_14 : decode cX10_readsAmount 14 = .ok (.aload_n 0, 1) := by decide +kernel
theorem dX10_readsAmount_15 : decode cX10_readsAmount 15 = .ok (.getfield 138, 3) := by decide +kernel
theorem dX10_readsAmount_18 : decode cX10_readsAmount 18 = .ok (.invokevirtual 151, 3) := by decide +kernel
theorem dX10_readsAmount_21 : decode cX10_readsAmount 21 = .ok (.ireturn, 1) := by decide +kernel
theorem dX10_readsAmount_22 : decode cX10_readsAmount 22 = .ok (.aload_n 0, 1) := by decide +kernel
theorem dX10_readsAmount_23 : decode cX10_readsAmount 23 = .ok (.iconst 0, 1) := by decide +kernel
theorem dX10_readsAmount_24 : decode cX10_readsAmount 24 = .ok (.putfield 154, 3) := by decide +kernel
theorem dX10_readsAmount_27 : decode cX10_readsAmount 27 = .ok (.aload_n 0, 1) := by decide +kernel
theorem dX10_readsAmount_28 : decode cX10_readsAmount 28 = .ok (.invokevirtual 157, 3) := by decide +kernel
theorem dX10_readsAmount_31 : decode cX10_readsAmount 31 = .ok (.ifCond .eq 55, 3) := by decide +kernel
theorem dX10_readsAmount_34 : decode cX10_readsAmount 34 = .ok (.aload_n 0, 1) := by decide +kernel
theorem dX10_readsAmount_35 : decode cX10_readsAmount 35 = .ok (.getfield 138, 3) := by decide +kernel
theorem dX10_readsAmount_38 : decode cX10_readsAmount 38 = .ok (.iload_n 2, 1) := by decide +kernel
theorem dX10_readsAmount_39 : decode cX10_readsAmount 39 = .ok (.iload_n 1, 1) := by decide +kernel
theorem dX10_readsAmount_40 : decode cX10_readsAmount 40 = .ok (.iadd, 1) := by decide +kernel
theorem dX10_readsAmount_41 : decode cX10_readsAmount 41 = .ok (.if_icmp .ne 13, 3) := by decide +kernel
theorem dX10_readsAmount_44 : decode cX10_readsAmount 44 = .ok (.aload_n 0, 1) := by decide +kernel
theorem dX10_readsAmount_45 : decode cX10_readsAmount 45 = .ok (.iconst 2, 1) := by decide +kernel
theorem dX10_readsAmount_46 : decode cX10_readsAmount 46 = .ok (.aload_n 0, 1) := by decide +kernel
theorem dX10_readsAmount_47 : decode cX10_readsAmount 47 = .ok (.getfield 138, 3) := by decide +kernel
theorem dX10_readsAmount_50 : decode cX10_readsAmount 50 = .ok (.invokevirtual 151, 3) := by decide +kernel
theorem dX10_readsAmount_53 : decode cX10_readsAmount 53 = .ok (.ireturn, 1) := by decide +kernel
theorem dX10_readsAmount_54 : decode cX10_readsAmount 54 = .ok (.aload_n 0, 1) := by decide +kernel
theorem dX10_readsAmount_55 : decode cX10_readsAmount 55 = .ok (.bipush 10, 2) := by decide +kernel
theorem dX10_readsAmount_57 : decode cX10_readsAmount 57 = .ok (.aload_n 0, 1) := by decide +kernel
theorem dX10_readsAmount_58 : decode cX10_readsAmount 58 = .ok (.getfield 154, 3) := by decide +kernel
theorem dX10_readsAmount_61 : decode cX10_readsAmount 61 = .ok (.imul, 1) := by decide +kernel
theorem dX10_readsAmount_62 : decode cX10_readsAmount 62 = .ok (.aload_n 0, 1) := by decide +kernel
theorem dX10_readsAmount_63 : decode cX10_readsAmount 63 = .ok (.invokevirtual 144, 3) := by decide +kernel
theorem dX10_readsAmount_66 : decode cX10_readsAmount 66 = .ok (.iadd, 1) := by decide +kernel
theorem dX10_readsAmount_67 : decode cX10_readsAmount 67 = .ok (.bipush 48, 2) := by decide +kernel
theorem dX10_readsAmount_69 : decode cX10_readsAmount 69 = .ok (.isub, 1) := by decide +kernel
theorem dX10_readsAmount_70 : decode cX10_readsAmount 70 = .ok (.putfield 154, 3) := by decide +kernel
theorem dX10_readsAmount_73 : decode cX10_readsAmount 73 = .ok (.aload_n 0, 1) := by decide +kernel
theorem dX10_readsAmount_74 : decode cX10_readsAmount 74 = .ok (.aload_n 0, 1) := by decide +kernel
theorem dX10_readsAmount_75 : decode cX10_readsAmount 75 = .ok (.getfield 138, 3) := by decide +kernel
theorem dX10_readsAmount_78 : decode cX10_readsAmount 78 = .ok (.iconst 1, 1) := by decide +kernel
theorem dX10_readsAmount_79 : decode cX10_readsAmount 79 = .ok (.iadd, 1) := by decide +kernel
theorem dX10_readsAmount_80 : decode cX10_readsAmount 80 = .ok (.putfield 138, 3) := by decide +kernel
theorem dX10_readsAmount_83 : decode cX10_readsAmount 83 = .ok (.goto (-56), 3) := by decide +kernel
theorem dX10_readsAmount_86 : decode cX10_readsAmount 86 = .ok (.iconst 1, 1) := by decide +kernel
theorem dX10_readsAmount_87 : decode cX10_readsAmount 87 = .ok (.ireturn, 1) := by decide +kernel
theorem dX10_readsOther_0 : decode cX10_readsOther 0 = .ok (.aload_n 0, 1) := by decide +kernel
theorem dX10_readsOther_1 : decode cX10_readsOther 1 = .ok (.invokevirtual 271, 3) := by decide +kernel
theorem dX10_readsOther_4 : decode cX10_readsOther 4 = .ok (.ifCond .ne 13, 3) := by decide +kernel
theorem dX10_readsOther_7 : decode cX10_readsOther 7 = .ok (.aload_n 0, 1) := by decide +kernel
theorem dX10_readsOther_8 : decode cX10_readsOther 8 = .ok (.iconst 1, 1) := by decide +kernel
theorem dX10_readsOther_9 : decode cX10_readsOther 9 = .ok (.aload_n 0, 1) := by decide +kernel
theorem dX10_readsOther_10 : decode cX10_readsOther 10 = .ok (.getfield 138, 3) := by decide +kernel
theorem dX10_readsOther_13 : decode cX10_readsOther 13 = .ok (.invokevirtual 151, 3) := by decide +kernel
theorem dX10_readsOther_16 : decode cX10_readsOther 16 = .ok (.ireturn, 1) := by decide +kernel
theorem dX10_readsOther_17 : decode cX10_readsOther 17 = .ok (.aload_n 0, 1) := by decide +kernel
theorem dX10_readsOther_18 : decode cX10_readsOther 18 = .ok (.invokevirtual 144, 3) := by decide +kernel
theorem dX10_readsOther_21 : decode cX10_readsOther 21 = .ok (.bipush 97, 2) := by decide +kernel
theorem dX10_readsOther_23 : decode cX10_readsOther 23 = .ok (.isub, 1) := by decide +kernel
theorem dX10_readsOther_24 : decode cX10_readsOther 24 = .ok (.istore_n 3, 1) := by decide +kernel
theorem dX10_readsOther_25 : decode cX10_readsOther 25 = .ok (.iload_n 3, 1) := by decide +kernel
theorem dX10_readsOther_26 : decode cX10_readsOther 26 = .ok (.iload_n 1, 1) := by decide +kernel
theorem dX10_readsOther_27 : decode cX10_readsOther 27 = .ok (.if_icmp .ne 14, 3) := by decide +kernel
theorem dX10_readsOther_30 : decode cX10_readsOther 30 = .ok (.aload_n 0, 1) := by decide +kernel
theorem dX10_readsOther_31 : decode cX10_readsOther 31 = .ok (.bipush 6, 2) := by decide +kernel
theorem dX10_readsOther_33 : decode cX10_readsOther 33 = .ok (.aload_n 0, 1) := by decide +kernel
theorem dX10_readsOther_34 : decode cX10_readsOther 34 = .ok (.getfield 138, 3) := by decide +kernel
theorem dX10_readsOther_37 : decode cX10_readsOther 37 = .ok (.invokevirtual 151, 3) := by decide +kernel
theorem dX10_readsOther_40 : decode cX10_readsOther 40 = .ok (.ireturn, 1) := by decide +kernel
theorem dX10_readsOther_41 : decode cX10_readsOther 41 = .ok (.aload_n 0, 1) := by decide +kernel
theorem dX10_readsOther_42 : decode cX10_readsOther 42 = .ok (.iload_n 3, 1) := by decide +kernel
theorem dX10_readsOther_43 : decode cX10_readsOther 43 = .ok (.invokevirtual 128, 3) := by decide +kernel
theorem dX10_readsOther_46 : decode cX10_readsOther 46 = .ok (.ifCond .ne 14, 3) := by decide +kernel
theorem dX10_readsOther_49 : decode cX10_readsOther 49 = .ok (.aload_n 0, 1) := by decide +kernel
theorem dX10_readsOther_50 : decode cX10_readsOther 50 = .ok (.bipush 7, 2) := by decide +kernel
theorem dX10_readsOther_52 : decode cX10_readsOther 52 = .ok (.aload_n 0, 1) := by decide +kernel
theorem dX10_readsOther_53 : decode cX10_readsOther 53 = .ok (.getfield 138, 3) := by decide +kernel
theorem dX10_readsOther_56 : decode cX10_readsOther 56 = .ok (.invokevirtual 151, 3) := by decide +kernel
theorem dX10_readsOther_59 : decode cX10_readsOther 59 = .ok (.ireturn, 1) := by decide +kernel
theorem dX10_readsOther_60 : decode cX10_readsOther 60 = .ok (.aload_n 0, 1) := by decide +kernel
theorem dX10_readsOther_61 : decode cX10_readsOther 61 = .ok (.aload_n 0, 1) := by decide +kernel
theorem dX10_readsOther_62 : decode cX10_readsOther 62 = .ok (.getfield 138, 3) := by decide +kernel
theorem dX10_readsOther_65 : decode cX10_readsOther 65 = .ok (.iconst 1, 1) := by decide +kernel
theorem dX10_readsOther_66 : decode cX10_readsOther 66 = .ok (.iadd, 1) := by decide +kernel
theorem dX10_readsOther_67 : decode cX10_readsOther 67 = .ok (.putfield 138, 3) := by decide +kernel
theorem dX10_readsOther_70 : decode cX10_readsOther 70 = .ok (.aload_n 0, 1) := by decide +kernel
theorem dX10_readsOther_71 : decode cX10_readsOther 71 = .ok (.getfield 19, 3) := by decide +kernel
theorem dX10_readsOther_74 : decode cX10_readsOther 74 = .ok (.iload_n 1, 1) := by decide +kernel
theorem dX10_readsOther_75 : decode cX10_readsOther 75 = .ok (.iload_n 2, 1) := by decide +kernel
theorem dX10_readsOther_76 : decode cX10_readsOther 76 = .ok (.ifCond .eq 16, 3) := by decide +kernel
theorem dX10_readsOther_79 : decode cX10_readsOther 79 = .ok (.aload_n 0, 1) := by decide +kernel
theorem dX10_readsOther_80 : decode cX10_readsOther 80 = .ok (.getfield 19, 3) := by decide +kernel
theorem dX10_readsOther_83 : decode cX10_readsOther 83 = .ok (.iload_n 1, 1) := by decide +kernel
theorem dX10_readsOther_84 : decode cX10_readsOther 84 = .ok (.iaload, 1) := by decide +kernel
theorem dX10_readsOther_85 : decode cX10_readsOther 85 = .ok (.iconst 1, 1) := by decide +kernel
theorem dX10_readsOther_86 : decode cX10_readsOther 86 = .ok (.iload_n 3, 1) := by decide +kernel
theorem dX10_readsOther_87 : decode cX10_readsOther 87 = .ok (.ishl, 1) := by decide +kernel
theorem dX10_readsOther_88 : decode cX10_readsOther 88 = .ok (.ior, 1) := by decide +kernel
theorem dX10_readsOther_89 : decode cX10_readsOther 89 = .ok (.goto 15, 3) := by decide +kernel
theorem dX10_readsOther_92 : decode cX10_readsOther 92 = .ok (.aload_n 0, 1) := by decide +kernel
theorem dX10_readsOther_93 : decode cX10_readsOther 93 = .ok (.getfield 19, 3) := by decide +kernel
theorem dX10_readsOther_96 : decode cX10_readsOther 96 = .ok (.iload_n 1, 1) := by decide +kernel
theorem dX10_readsOther_97 : decode cX10_readsOther 97 = .ok (.iaload, 1) := by decide +kernel
theorem dX10_readsOther_98 : decode cX10_readsOther 98 = .ok (.iconst 1, 1) := by decide +kernel
theorem dX10_readsOther_99 : decode cX10_readsOther 99 = .ok (.iload_n 3, 1) := by decide +kernel
theorem dX10_readsOther_100 : decode cX10_readsOther 100 = .ok (.ishl, 1) := by decide +kernel
theorem dX10_readsOther_101 : decode cX10_readsOther 101 = .ok (.iconst (-1), 1) := by decide +kernel
theorem dX10_readsOther_102 : decode cX10_readsOther 102 = .ok (.ixor, 1) := by decide +kernel
theorem dX10_readsOther_103 : decode cX10_readsOther 103 = .ok (.iand, 1) := by decide +kernel
theorem dX10_readsOther_104 : decode cX10_readsOther 104 = .ok (.iastore, 1) := by decide +kernel
theorem dX10_readsOther_105 : decode cX10_readsOther 105 = .ok (.aload_n 0, 1) := by decide +kernel
theorem dX10_readsOther_106 : decode cX10_readsOther 106 = .ok (.getfield 19, 3) := by decide +kernel
theorem dX10_readsOther_109 : decode cX10_readsOther 109 = .ok (.iload_n 3, 1) := by decide +kernel
theorem dX10_readsOther_110 : decode cX10_readsOther 110 = .ok (.iload_n 2, 1) := by decide +kernel
theorem dX10_readsOther_111 : decode cX10_readsOther 111 = .ok (.ifCond .eq 16, 3) := by decide +kernel
theorem dX10_readsOther_114 : decode cX10_readsOther 114 = .ok (.aload_n 0, 1) := by decide +kernel
theorem dX10_readsOther_115 : decode cX10_readsOther 115 = .ok (.getfield 19, 3) := by decide +kernel
theorem dX10_readsOther_118 : decode cX10_readsOther 118 = .ok (.iload_n 3, 1) := by decide +kernel
theorem dX10_readsOther_119 : decode cX10_readsOther 119 = .ok (.iaload, 1) := by decide +kernel
theorem dX10_readsOther_120 : decode cX10_readsOther 120 = .ok (.iconst 1, 1) := by decide +kernel
theorem dX10_readsOther_121 : decode cX10_readsOther 121 = .ok (.iload_n 1, 1) := by decide +kernel
theorem dX10_readsOther_122 : decode cX10_readsOther 122 = .ok (.ishl, 1) := by decide +kernel
theorem dX10_readsOther_123 : decode cX10_readsOther 123 = .ok (.ior, 1) := by decide +kernel
theorem dX10_readsOther_124 : decode cX10_readsOther 124 = .ok (.goto 15, 3) := by decide +kernel
theorem dX10_readsOther_127 : decode cX10_readsOther 127 = .ok (.aload_n 0, 1) := by decide +kernel
theorem dX10_readsOther_128 : decode cX10_readsOther 128 = .ok (.getfield 19, 3) := by decide +kernel
theorem dX10_readsOther_131 : decode cX10_readsOther 131 = .ok (.iload_n 3, 1) := by decide +kernel
theorem dX10_readsOther_132 : decode cX10_readsOther 132 = .ok (.iaload, 1) := by decide +kernel
theorem dX10_readsOther_133 : decode cX10_readsOther 133 = .ok (.iconst 1, 1) := by decide +kernel
theorem dX10_readsOther_134 : decode cX10_readsOther 134 = .ok (.iload_n 1, 1) := by decide +kernel
theorem dX10_readsOther_135 : decode cX10_readsOther 135 = .ok (.ishl, 1) := by decide +kernel
theorem dX10_readsOther_136 : decode cX10_readsOther 136 = .ok (.iconst (-1), 1) := by decide +kernel
theorem dX10_readsOther_137 : decode cX10_readsOther 137 = .ok (.ixor, 1) := by decide +kernel
theorem dX10_readsOther_138 : decode cX10_readsOther 138 = .ok (.iand, 1) := by decide +kernel
theorem dX10_readsOther_139 : decode cX10_readsOther 139 = .ok (.iastore, 1) := by decide +kernel
theorem dX10_readsOther_140 : decode cX10_readsOther 140 = .ok (.iconst 1, 1) := by decide +kernel
theorem dX10_readsOther_141 : decode cX10_readsOther 141 = .ok (.ireturn, 1) := by decide +kernel
theorem dX10_readsLine_0 : decode cX10_readsLine 0 = .ok (.aload_n 0, 1) := by decide +kernel
theorem dX10_readsLine_1 : decode cX10_readsLine 1 = .ok (.invokevirtual 271, 3) := by decide +kernel
theorem dX10_readsLine_4 : decode cX10_readsLine 4 = .ok (.ifCond .ne 13, 3) := by decide +kernel
theorem dX10_readsLine_7 : decode cX10_readsLine 7 = .ok (.aload_n 0, 1) := by decide +kernel
theorem dX10_readsLine_8 : decode cX10_readsLine 8 = .ok (.iconst 1, 1) := by decide +kernel
theorem dX10_readsLine_9 : decode cX10_readsLine 9 = .ok (.aload_n 0, 1) := by decide +kernel
theorem dX10_readsLine_10 : decode cX10_readsLine 10 = .ok (.getfield 138, 3) := by decide +kernel
theorem dX10_readsLine_13 : decode cX10_readsLine 13 = .ok (.invokevirtual 151, 3) := by decide +kernel
theorem dX10_readsLine_16 : decode cX10_readsLine 16 = .ok (.ireturn, 1) := by decide +kernel
theorem dX10_readsLine_17 : decode cX10_readsLine 17 = .ok (.aload_n 0, 1) := by decide +kernel
theorem dX10_readsLine_18 : decode cX10_readsLine 18 = .ok (.getfield 274, 3) := by decide +kernel
theorem dX10_readsLine_21 : decode cX10_readsLine 21 = .ok (.bipush 20, 2) := by decide +kernel
theorem dX10_readsLine_23 : decode cX10_readsLine 23 = .ok (.if_icmp .ne 13, 3) := by decide +kernel
theorem dX10_readsLine_26 : decode cX10_readsLine 26 = .ok (.aload_n 0, 1) := by decide +kernel
theorem dX10_readsLine_27 : decode cX10_readsLine 27 = .ok (.iconst 4, 1) := by decide +kernel
theorem dX10_readsLine_28 : decode cX10_readsLine 28 = .ok (.aload_n 0, 1) := by decide +kernel
theorem dX10_readsLine_29 : decode cX10_readsLine 29 = .ok (.getfield 138, 3) := by decide +kernel
theorem dX10_readsLine_32 : decode cX10_readsLine 32 = .ok (.invokevirtual 151, 3) := by decide +kernel
theorem dX10_readsLine_35 : decode cX10_readsLine 35 = .ok (.ireturn, 1) := by decide +kernel
theorem dX10_readsLine_36 : decode cX10_readsLine 36 = .ok (.aload_n 0, 1) := by decide +kernel
theorem dX10_readsLine_37 : decode cX10_readsLine 37 = .ok (.aload_n 0, 1) := by decide +kernel
theorem dX10_readsLine_38 : decode cX10_readsLine 38 = .ok (.getfield 274, 3) := by decide +kernel
theorem dX10_readsLine_41 : decode cX10_readsLine 41 = .ok (.iconst 1, 1) := by decide +kernel
theorem dX10_readsLine_42 : decode cX10_readsLine 42 = .ok (.iadd, 1) := by decide +kernel
theorem dX10_readsLine_43 : decode cX10_readsLine 43 = .ok (.putfield 274, 3) := by decide +kernel
theorem dX10_readsLine_46 : decode cX10_readsLine 46 = .ok (.aload_n 0, 1) := by decide +kernel
theorem dX10_readsLine_47 : decode cX10_readsLine 47 = .ok (.invokevirtual 144, 3) := by decide +kernel
theorem dX10_readsLine_50 : decode cX10_readsLine 50 = .ok (.bipush 97, 2) := by decide +kernel
theorem dX10_readsLine_52 : decode cX10_readsLine 52 = .ok (.isub, 1) := by decide +kernel
theorem dX10_readsLine_53 : decode cX10_readsLine 53 = .ok (.istore_n 1, 1) := by decide +kernel
theorem dX10_readsLine_54 : decode cX10_readsLine 54 = .ok (.aload_n 0, 1) := by decide +kernel
theorem dX10_readsLine_55 : decode cX10_readsLine 55 = .ok (.iload_n 1, 1) := by decide +kernel
theorem dX10_readsLine_56 : decode cX10_readsLine 56 = .ok (.invokevirtual 128, 3) := by decide +kernel
theorem dX10_readsLine_59 : decode cX10_readsLine 59 = .ok (.ifCond .ne 14, 3) := by decide +kernel
theorem dX10_readsLine_62 : decode cX10_readsLine 62 = .ok (.aload_n 0, 1) := by decide +kernel
theorem dX10_readsLine_63 : decode cX10_readsLine 63 = .ok (.bipush 7, 2) := by decide +kernel
theorem dX10_readsLine_65 : decode cX10_readsLine 65 = .ok (.aload_n 0, 1) := by decide +kernel
theorem dX10_readsLine_66 : decode cX10_readsLine 66 = .ok (.getfield 138, 3) := by decide +kernel
theorem dX10_readsLine_69 : decode cX10_readsLine 69 = .ok (.invokevirtual 151, 3) := by decide +kernel
theorem dX10_readsLine_72 : decode cX10_readsLine 72 = .ok (.ireturn, 1) := by decide +kernel
theorem dX10_readsLine_73 : decode cX10_readsLine 73 = .ok (.aload_n 0, 1) := by decide +kernel
theorem dX10_readsLine_74 : decode cX10_readsLine 74 = .ok (.aload_n 0, 1) := by decide +kernel
theorem dX10_readsLine_75 : decode cX10_readsLine 75 = .ok (.getfield 138, 3) := by decide +kernel
theorem dX10_readsLine_78 : decode cX10_readsLine 78 = .ok (.iconst 1, 1) := by decide +kernel
theorem dX10_readsLine_79 : decode cX10_readsLine 79 = .ok (.iadd, 1) := by decide +kernel
theorem dX10_readsLine_80 : decode cX10_readsLine 80 = .ok (.putfield 138, 3) := by decide +kernel
theorem dX10_readsLine_83 : decode cX10_readsLine 83 = .ok (.aload_n 0, 1) := by decide +kernel
theorem dX10_readsLine_84 : decode cX10_readsLine 84 = .ok (.invokevirtual 144, 3) := by decide +kernel
theorem dX10_readsLine_87 : decode cX10_readsLine 87 = .ok (.istore_n 2, 1) := by decide +kernel
theorem dX10_readsLine_88 : decode cX10_readsLine 88 = .ok (.iload_n 2, 1) := by decide +kernel
theorem dX10_readsLine_89 : decode cX10_readsLine 89 = .ok (.bipush 43, 2) := by decide +kernel
theorem dX10_readsLine_91 : decode cX10_readsLine 91 = .ok (.if_icmp .eq 37, 3) := by decide +kernel
theorem dX10_readsLine_94 : decode cX10_readsLine 94 = .ok (.iload_n 2, 1) := by decide +kernel
theorem dX10_readsLine_95 : decode cX10_readsLine 95 = .ok (.bipush 45, 2) := by decide +kernel
theorem dX10_readsLine_97 : decode cX10_readsLine 97 = .ok (.if_icmp .eq 31, 3) := by decide +kernel
theorem dX10_readsLine_100 : decode cX10_readsLine 100 = .ok (.iload_n 2, 1) := by decide +kernel
theorem dX10_readsLine_101 : decode cX10_readsLine 101 = .ok (.bipush 61, 2) := by decide +kernel
theorem dX10_readsLine_103 : decode cX10_readsLine 103 = .ok (.if_icmp .eq 25, 3) := by decide +kernel
theorem dX10_readsLine_106 : decode cX10_readsLine 106 = .ok (.iload_n 2, 1) := by decide +kernel
theorem dX10_readsLine_107 : decode cX10_readsLine 107 = .ok (.bipush 38, 2) := by decide +kernel
theorem dX10_readsLine_109 : decode cX10_readsLine 109 = .ok (.if_icmp .eq 19, 3) := by decide +kernel
theorem dX10_readsLine_112 : decode cX10_readsLine 112 = .ok (.iload_n 2, 1) := by decide +kernel
theorem dX10_readsLine_113 : decode cX10_readsLine 113 = .ok (.bipush 47, 2) := by decide +kernel
theorem dX10_readsLine_115 : decode cX10_readsLine 115 = .ok (.if_icmp .eq 13, 3) := by decide +kernel
theorem dX10_readsLine_118 : decode cX10_readsLine 118 = .ok (.aload_n 0, 1) := by decide +kernel
theorem dX10_readsLine_119 : decode cX10_readsLine 119 = .ok (.iconst 1, 1) := by decide +kernel
theorem dX10_readsLine_120 : decode cX10_readsLine 120 = .ok (.aload_n 0, 1) := by decide +kernel
theorem dX10_readsLine_121 : decode cX10_readsLine 121 = .ok (.getfield 138, 3) := by decide +kernel
theorem dX10_readsLine_124 : decode cX10_readsLine 124 = .ok (.invokevirtual 151, 3) := by decide +kernel
theorem dX10_readsLine_127 : decode cX10_readsLine 127 = .ok (.ireturn, 1) := by decide +kernel
theorem dX10_readsLine_128 : decode cX10_readsLine 128 = .ok (.aload_n 0, 1) := by decide +kernel
theorem dX10_readsLine_129 : decode cX10_readsLine 129 = .ok (.aload_n 0, 1) := by decide +kernel
theorem dX10_readsLine_130 : decode cX10_readsLine 130 = .ok (.getfield 138, 3) := by decide +kernel
theorem dX10_readsLine_133 : decode cX10_readsLine 133 = .ok (.iconst 1, 1) := by decide +kernel
theorem dX10_readsLine_134 : decode cX10_readsLine 134 = .ok (.iadd, 1) := by decide +kernel
theorem dX10_readsLine_135 : decode cX10_readsLine 135 = .ok (.putfield 138, 3) := by decide +kernel
theorem dX10_readsLine_138 : decode cX10_readsLine 138 = .ok (.iload_n 2, 1) := by decide +kernel
theorem dX10_readsLine_139 : decode cX10_readsLine 139 = .ok (.bipush 38, 2) := by decide +kernel
theorem dX10_readsLine_141 : decode cX10_readsLine 141 = .ok (.if_icmp .eq 9, 3) := by decide +kernel
theorem dX10_readsLine_144 : decode cX10_readsLine 144 = .ok (.iload_n 2, 1) := by decide +kernel
theorem dX10_readsLine_145 : decode cX10_readsLine 145 = .ok (.bipush 47, 2) := by decide +kernel
theorem dX10_readsLine_147 : decode cX10_readsLine 147 = .ok (.if_icmp .ne 20, 3) := by decide +kernel
theorem dX10_readsLine_150 : decode cX10_readsLine 150 = .ok (.aload_n 0, 1) := by decide +kernel
theorem dX10_readsLine_151 : decode cX10_readsLine 151 = .ok (.iload_n 1, 1) := by decide +kernel
theorem dX10_readsLine_152 : decode cX10_readsLine 152 = .ok (.iload_n 2, 1) := by decide +kernel
theorem dX10_readsLine_153 : decode cX10_readsLine 153 = .ok (.bipush 38, 2) := by decide +kernel
theorem dX10_readsLine_155 : decode cX10_readsLine 155 = .ok (.if_icmp .ne 7, 3) := by decide +kernel
theorem dX10_readsLine_158 : decode cX10_readsLine 158 = .ok (.iconst 1, 1) := by decide +kernel
theorem dX10_readsLine_159 : decode cX10_readsLine 159 = .ok (.goto 4, 3) := by decide +kernel
theorem dX10_readsLine_162 : decode cX10_readsLine 162 = .ok (.iconst 0, 1) := by decide +kernel
theorem dX10_readsLine_163 : decode cX10_readsLine 163 = .ok (.invokevirtual 277, 3) := by decide +kernel
theorem dX10_readsLine_166 : decode cX10_readsLine 166 = .ok (.ireturn, 1) := by decide +kernel
theorem dX10_readsLine_167 : decode cX10_readsLine 167 = .ok (.aload_n 0, 1) := by decide +kernel
theorem dX10_readsLine_168 : decode cX10_readsLine 168 = .ok (.iload_n 2, 1) := by decide +kernel
theorem dX10_readsLine_169 : decode cX10_readsLine 169 = .ok (.bipush 61, 2) := by decide +kernel
theorem dX10_readsLine_171 : decode cX10_readsLine 171 = .ok (.if_icmp .ne 7, 3) := by decide +kernel
theorem dX10_readsLine_174 : decode cX10_readsLine 174 = .ok (.iconst 3, 1) := by decide +kernel
theorem dX10_readsLine_175 : decode cX10_readsLine 175 = .ok (.goto 4, 3) := by decide +kernel
theorem dX10_readsLine_178 : decode cX10_readsLine 178 = .ok (.iconst 2, 1) := by decide +kernel
theorem dX10_readsLine_179 : decode cX10_readsLine 179 = .ok (.invokevirtual 281, 3) := by decide +kernel
theorem dX10_readsLine_182 : decode cX10_readsLine 182 = .ok (.ifCond .ne 5, 3) := by decide +kernel
theorem dX10_readsLine_185 : decode cX10_readsLine 185 = .ok (.iconst 0, 1) := by decide +kernel
theorem dX10_readsLine_186 : decode cX10_readsLine 186 = .ok (.ireturn, 1) := by decide +kernel
theorem dX10_readsLine_187 : decode cX10_readsLine 187 = .ok (.iload_n 2, 1) := by decide +kernel
theorem dX10_readsLine_188 : decode cX10_readsLine 188 = .ok (.bipush 61, 2) := by decide +kernel
theorem dX10_readsLine_190 : decode cX10_readsLine 190 = .ok (.if_icmp .ne 19, 3) := by decide +kernel
theorem dX10_readsLine_193 : decode cX10_readsLine 193 = .ok (.aload_n 0, 1) := by decide +kernel
theorem dX10_readsLine_194 : decode cX10_readsLine 194 = .ok (.getfield 7, 3) := by decide +kernel
theorem dX10_readsLine_197 : decode cX10_readsLine 197 = .ok (.bipush 16, 2) := by decide +kernel
theorem dX10_readsLine_199 : decode cX10_readsLine 199 = .ok (.iload_n 1, 1) := by decide +kernel
theorem dX10_readsLine_200 : decode cX10_readsLine 200 = .ok (.iadd, 1) := by decide +kernel
theorem dX10_readsLine_201 : decode cX10_readsLine 201 = .ok (.aload_n 0, 1) := by decide +kernel
theorem dX10_readsLine_202 : decode cX10_readsLine 202 = .ok (.getfield 154, 3) := by decide +kernel
theorem dX10_readsLine_205 : decode cX10_readsLine 205 = .ok (.iastore, 1) := by decide +kernel
theorem dX10_readsLine_206 : decode cX10_readsLine 206 = .ok (.goto 47, 3) := by decide +kernel
theorem dX10_readsLine_209 : decode cX10_readsLine 209 = .ok (.aload_n 0, 1) := by decide +kernel
theorem dX10_readsLine_210 : decode cX10_readsLine 210 = .ok (.getfield 7, 3) := by decide +kernel
theorem dX10_readsLine_213 : decode cX10_readsLine 213 = .ok (.iconst 0, 1) := by decide +kernel
theorem dX10_readsLine_214 : decode cX10_readsLine 214 = .ok (.iload_n 1, 1) := by decide +kernel
theorem dX10_readsLine_215 : decode cX10_readsLine 215 = .ok (.iadd, 1) := by decide +kernel
theorem dX10_readsLine_216 : decode cX10_readsLine 216 = .ok (.iconst 0, 1) := by decide +kernel
theorem dX10_readsLine_217 : decode cX10_readsLine 217 = .ok (.bipush 99, 2) := by decide +kernel
theorem dX10_readsLine_219 : decode cX10_readsLine 219 = .ok (.aload_n 0, 1) := by decide +kernel
theorem dX10_readsLine_220 : decode cX10_readsLine 220 = .ok (.getfield 7, 3) := by decide +kernel
theorem dX10_readsLine_223 : decode cX10_readsLine 223 = .ok (.iconst 0, 1) := by decide +kernel
theorem dX10_readsLine_224 : decode cX10_readsLine 224 = .ok (.iload_n 1, 1) := by decide +kernel
theorem dX10_readsLine_225 : decode cX10_readsLine 225 = .ok (.iadd, 1) := by decide +kernel
theorem dX10_readsLine_226 : decode cX10_readsLine 226 = .ok (.iaload, 1) := by decide +kernel
theorem dX10_readsLine_227 : decode cX10_readsLine 227 = .ok (.iload_n 2, 1) := by decide +kernel
theorem dX10_readsLine_228 : decode cX10_readsLine 228 = .ok (.bipush 43, 2) := by decide +kernel
theorem dX10_readsLine_230 : decode cX10_readsLine 230 = .ok (.if_icmp .ne 10, 3) := by decide +kernel
theorem dX10_readsLine_233 : decode cX10_readsLine 233 = .ok (.aload_n 0, 1) := by decide +kernel
theorem dX10_readsLine_234 : decode cX10_readsLine 234 = .ok (.getfield 154, 3) := by decide +kernel
theorem dX10_readsLine_237 : decode cX10_readsLine 237 = .ok (.goto 8, 3) := by decide +kernel
theorem dX10_readsLine_240 : decode cX10_readsLine 240 = .ok (.aload_n 0, 1) := by decide +kernel
theorem dX10_readsLine_241 : decode cX10_readsLine 241 = .ok (.getfield 154, 3) := by decide +kernel
theorem dX10_readsLine_244 : decode cX10_readsLine 244 = .ok (.ineg, 1) := by decide +kernel
theorem dX10_readsLine_245 : decode cX10_readsLine 245 = .ok (.iadd, 1) := by decide +kernel
theorem dX10_readsLine_246 : decode cX10_readsLine 246 = .ok (.invokestatic 284, 3) := by decide +kernel
theorem dX10_readsLine_249 : decode cX10_readsLine 249 = .ok (.invokestatic 287, 3) := by decide +kernel
theorem dX10_readsLine_252 : decode cX10_readsLine 252 = .ok (.iastore, 1) := by decide +kernel
theorem dX10_readsLine_253 : decode cX10_readsLine 253 = .ok (.iconst 1, 1) := by decide +kernel
theorem dX10_readsLine_254 : decode cX10_readsLine 254 = .ok (.ireturn, 1) := by decide +kernel
theorem dX10_pleas_0 : decode cX10_pleas 0 = .ok (.iload_n 1, 1) := by decide +kernel
theorem dX10_pleas_1 : decode cX10_pleas 1 = .ok (.iconst 1, 1) := by decide +kernel
theorem dX10_pleas_2 : decode cX10_pleas 2 = .ok (.bipush 120, 2) := by decide +kernel
theorem dX10_pleas_4 : decode cX10_pleas 4 = .ok (.invokestatic 112, 3) := by decide +kernel
theorem dX10_pleas_7 : decode cX10_pleas 7 = .ok (.ifCond .eq 11, 3) := by decide +kernel
theorem dX10_pleas_10 : decode cX10_pleas 10 = .ok (.iload_n 1, 1) := by decide +kernel
theorem dX10_pleas_11 : decode cX10_pleas 11 = .ok (.aload_n 0, 1) := by decide +kernel
theorem dX10_pleas_12 : decode cX10_pleas 12 = .ok (.getfield 131, 3) := by decide +kernel
theorem dX10_pleas_15 : decode cX10_pleas 15 = .ok (.if_icmp .le 5, 3) := by decide +kernel
theorem dX10_pleas_18 : decode cX10_pleas 18 = .ok (.iconst (-1), 1) := by decide +kernel
theorem dX10_pleas_19 : decode cX10_pleas 19 = .ok (.ireturn, 1) := by decide +kernel
theorem dX10_pleas_20 : decode cX10_pleas 20 = .ok (.aload_n 0, 1) := by decide +kernel
theorem dX10_pleas_21 : decode cX10_pleas 21 = .ok (.iload_n 1, 1) := by decide +kernel
theorem dX10_pleas_22 : decode cX10_pleas 22 = .ok (.invokevirtual 221, 3) := by decide +kernel
theorem dX10_pleas_25 : decode cX10_pleas 25 = .ok (.aload_n 0, 1) := by decide +kernel
theorem dX10_pleas_26 : decode cX10_pleas 26 = .ok (.iconst 0, 1) := by decide +kernel
theorem dX10_pleas_27 : decode cX10_pleas 27 = .ok (.putfield 274, 3) := by decide +kernel
theorem dX10_pleas_30 : decode cX10_pleas 30 = .ok (.aload_n 0, 1) := by decide +kernel
theorem dX10_pleas_31 : decode cX10_pleas 31 = .ok (.getfield 7, 3) := by decide +kernel
theorem dX10_pleas_34 : decode cX10_pleas 34 = .ok (.aload_n 0, 1) := by decide +kernel
theorem dX10_pleas_35 : decode cX10_pleas 35 = .ok (.getfield 13, 3) := by decide +kernel
theorem dX10_pleas_38 : decode cX10_pleas 38 = .ok (.invokestatic 290, 3) := by decide +kernel
theorem dX10_pleas_41 : decode cX10_pleas 41 = .ok (.iconst 0, 1) := by decide +kernel
theorem dX10_pleas_42 : decode cX10_pleas 42 = .ok (.istore_n 2, 1) := by decide +kernel
theorem dX10_pleas_43 : decode cX10_pleas 43 = .ok (.iload_n 2, 1) := by decide +kernel
theorem dX10_pleas_44 : decode cX10_pleas 44 = .ok (.bipush 16, 2) := by decide +kernel
theorem dX10_pleas_46 : decode cX10_pleas 46 = .ok (.if_icmp .ge 21, 3) := by decide +kernel
theorem dX10_pleas_49 : decode cX10_pleas 49 = .ok (.aload_n 0, 1) := by decide +kernel
theorem dX10_pleas_50 : decode cX10_pleas 50 = .ok (.getfield 83, 3) := by decide +kernel
theorem dX10_pleas_53 : decode cX10_pleas 53 = .ok (.iload_n 2, 1) := by decide +kernel
theorem dX10_pleas_54 : decode cX10_pleas 54 = .ok (.aload_n 0, 1) := by decide +kernel
theorem dX10_pleas_55 : decode cX10_pleas 55 = .ok (.getfield 19, 3) := by decide +kernel
theorem dX10_pleas_58 : decode cX10_pleas 58 = .ok (.iload_n 2, 1) := by decide +kernel
theorem dX10_pleas_59 : decode cX10_pleas 59 = .ok (.iaload, 1) := by decide +kernel
theorem dX10_pleas_60 : decode cX10_pleas 60 = .ok (.iastore, 1) := by decide +kernel
theorem dX10_pleas_61 : decode cX10_pleas 61 = .ok (.iinc 2 1, 3) := by decide +kernel
theorem dX10_pleas_64 : decode cX10_pleas 64 = .ok (.goto (-21), 3) := by decide +kernel
theorem dX10_pleas_67 : decode cX10_pleas 67 = .ok (.aload_n 0, 1) := by decide +kernel
theorem dX10_pleas_68 : decode cX10_pleas 68 = .ok (.invokevirtual 294, 3) := by decide +kernel
theorem dX10_pleas_71 : decode cX10_pleas 71 = .ok (.istore_n 2, 1) := by decide +kernel
theorem dX10_pleas_72 : decode cX10_pleas 72 = .ok (.iload_n 2, 1) := by decide +kernel
theorem dX10_pleas_73 : decode cX10_pleas 73 = .ok (.ifCond .eq 39, 3) := by decide +kernel
theorem dX10_pleas_76 : decode cX10_pleas 76 = .ok (.aload_n 0, 1) := by decide +kernel
theorem dX10_pleas_77 : decode cX10_pleas 77 = .ok (.getfield 138, 3) := by decide +kernel
theorem dX10_pleas_80 : decode cX10_pleas 80 = .ok (.aload_n 0, 1) := by decide +kernel
theorem dX10_pleas_81 : decode cX10_pleas 81 = .ok (.getfield 141, 3) := by decide +kernel
theorem dX10_pleas_84 : decode cX10_pleas 84 = .ok (.if_icmp .ge 28, 3) := by decide +kernel
theorem dX10_pleas_87 : decode cX10_pleas 87 = .ok (.aload_n 0, 1) := by decide +kernel
theorem dX10_pleas_88 : decode cX10_pleas 88 = .ok (.bipush 59, 2) := by decide +kernel
theorem dX10_pleas_90 : decode cX10_pleas 90 = .ok (.invokevirtual 227, 3) := by decide +kernel
theorem dX10_pleas_93 : decode cX10_pleas 93 = .ok (.ifCond .eq 14, 3) := by decide +kernel
theorem dX10_pleas_96 : decode cX10_pleas 96 = .ok (.aload_n 0, 1) := by decide +kernel
theorem dX10_pleas_97 : decode cX10_pleas 97 = .ok (.invokevirtual 294, 3) := by decide +kernel
theorem dX10_pleas_100 : decode cX10_pleas 100 = .ok (.ifCond .eq 7, 3) := by decide +kernel
theorem dX10_pleas_103 : decode cX10_pleas 103 = .ok (.iconst 1, 1) := by decide +kernel
theorem dX10_pleas_104 : decode cX10_pleas 104 = .ok (.goto 4, 3) := by decide +kernel
theorem dX10_pleas_107 : decode cX10_pleas 107 = .ok (.iconst 0, 1) := by decide +kernel
theorem dX10_pleas_108 : decode cX10_pleas 108 = .ok (.istore_n 2, 1) := by decide +kernel
theorem dX10_pleas_109 : decode cX10_pleas 109 = .ok (.goto (-37), 3) := by decide +kernel
theorem dX10_pleas_112 : decode cX10_pleas 112 = .ok (.aload_n 0, 1) := by decide +kernel
theorem dX10_pleas_113 : decode cX10_pleas 113 = .ok (.iconst 0, 1) := by decide +kernel
theorem dX10_pleas_114 : decode cX10_pleas 114 = .ok (.putfield 131, 3) := by decide +kernel
theorem dX10_pleas_117 : decode cX10_pleas 117 = .ok (.iload_n 2, 1) := by decide +kernel
theorem dX10_pleas_118 : decode cX10_pleas 118 = .ok (.ifCond .eq 8, 3) := by decide +kernel
theorem dX10_pleas_121 : decode cX10_pleas 121 = .ok (.aload_n 0, 1) := by decide +kernel
theorem dX10_pleas_122 : decode cX10_pleas 122 = .ok (.getfield 274, 3) := by decide +kernel
theorem dX10_pleas_125 : decode cX10_pleas 125 = .ok (.ireturn, 1) := by decide +kernel
theorem dX10_pleas_126 : decode cX10_pleas 126 = .ok (.aload_n 0, 1) := by decide +kernel
theorem dX10_pleas_127 : decode cX10_pleas 127 = .ok (.getfield 13, 3) := by decide +kernel
theorem dX10_pleas_130 : decode cX10_pleas 130 = .ok (.aload_n 0, 1) := by decide +kernel
theorem dX10_pleas_131 : decode cX10_pleas 131 = .ok (.getfield 7, 3) := by decide +kernel
theorem dX10_pleas_134 : decode cX10_pleas 134 = .ok (.invokestatic 290, 3) := by decide +kernel
theorem dX10_pleas_137 : decode cX10_pleas 137 = .ok (.iconst 0, 1) := by decide +kernel
theorem dX10_pleas_138 : decode cX10_pleas 138 = .ok (.istore_n 3, 1) := by decide +kernel
theorem dX10_pleas_139 : decode cX10_pleas 139 = .ok (.iload_n 3, 1) := by decide +kernel
theorem dX10_pleas_140 : decode cX10_pleas 140 = .ok (.bipush 16, 2) := by decide +kernel
theorem dX10_pleas_142 : decode cX10_pleas 142 = .ok (.if_icmp .ge 21, 3) := by decide +kernel
theorem dX10_pleas_145 : decode cX10_pleas 145 = .ok (.aload_n 0, 1) := by decide +kernel
theorem dX10_pleas_146 : decode cX10_pleas 146 = .ok (.getfield 19, 3) := by decide +kernel
theorem dX10_pleas_149 : decode cX10_pleas 149 = .ok (.iload_n 3, 1) := by decide +kernel
theorem dX10_pleas_150 : decode cX10_pleas 150 = .ok (.aload_n 0, 1) := by decide +kernel
theorem dX10_pleas_151 : decode cX10_pleas 151 = .ok (.getfield 83, 3) := by decide +kernel
theorem dX10_pleas_154 : decode cX10_pleas 154 = .ok (.iload_n 3, 1) := by decide +kernel
theorem dX10_pleas_155 : decode cX10_pleas 155 = .ok (.iaload, 1) := by decide +kernel
theorem dX10_pleas_156 : decode cX10_pleas 156 = .ok (.iastore, 1) := by decide +kernel
theorem dX10_pleas_157 : decode cX10_pleas 157 = .ok (.iinc 3 1, 3) := by decide +kernel
theorem dX10_pleas_160 : decode cX10_pleas 160 = .ok (.goto (-21), 3) := by decide +kernel
theorem dX10_pleas_163 : decode cX10_pleas 163 = .ok (.aload_n 0, 1) := by decide +kernel
theorem dX10_pleas_164 : decode cX10_pleas 164 = .ok (.getfield 148, 3) := by decide +kernel
theorem dX10_pleas_167 : decode cX10_pleas 167 = .ok (.ireturn, 1) := by decide +kernel
theorem dX10_walks_0 : decode cX10_walks 0 = .ok (.aload_n 0, 1) := by decide +kernel
theorem dX10_walks_1 : decode cX10_walks 1 = .ok (.iload_n 1, 1) := by decide +kernel
theorem dX10_walks_2 : decode cX10_walks 2 = .ok (.invokevirtual 124, 3) := by decide +kernel
theorem dX10_walks_5 : decode cX10_walks 5 = .ok (.ifCond .eq 12, 3) := by decide +kernel
theorem dX10_walks_8 : decode cX10_walks 8 = .ok (.aload_n 0, 1) := by decide +kernel
theorem dX10_walks_9 : decode cX10_walks 9 = .ok (.getfield 22, 3) := by decide +kernel
theorem dX10_walks_12 : decode cX10_walks 12 = .ok (.iload_n 1, 1) := by decide +kernel
theorem dX10_walks_13 : decode cX10_walks 13 = .ok (.iaload, 1) := by decide +kernel
theorem dX10_walks_14 : decode cX10_walks 14 = .ok (.ifCond .ne 4, 3) := by decide +kernel
theorem dX10_walks_17 : decode cX10_walks 17 = .ok (.return_, 1) := by decide +kernel
theorem dX10_walks_18 : decode cX10_walks 18 = .ok (.aload_n 0, 1) := by decide +kernel
theorem dX10_walks_19 : decode cX10_walks 19 = .ok (.getfield 25, 3) := by decide +kernel
theorem dX10_walks_22 : decode cX10_walks 22 = .ok (.bipush 48, 2) := by decide +kernel
theorem dX10_walks_24 : decode cX10_walks 24 = .ok (.iload_n 1, 1) := by decide +kernel
theorem dX10_walks_25 : decode cX10_walks 25 = .ok (.imul, 1) := by decide +kernel
theorem dX10_walks_26 : decode cX10_walks 26 = .ok (.aload_n 0, 1) := by decide +kernel
theorem dX10_walks_27 : decode cX10_walks 27 = .ok (.getfield 7, 3) := by decide +kernel
theorem dX10_walks_30 : decode cX10_walks 30 = .ok (.bipush 74, 2) := by decide +kernel
theorem dX10_walks_32 : decode cX10_walks 32 = .ok (.iaload, 1) := by decide +kernel
theorem dX10_walks_33 : decode cX10_walks 33 = .ok (.aload_n 0, 1) := by decide +kernel
theorem dX10_walks_34 : decode cX10_walks 34 = .ok (.getfield 22, 3) := by decide +kernel
theorem dX10_walks_37 : decode cX10_walks 37 = .ok (.iload_n 1, 1) := by decide +kernel
theorem dX10_walks_38 : decode cX10_walks 38 = .ok (.iaload, 1) := by decide +kernel
theorem dX10_walks_39 : decode cX10_walks 39 = .ok (.irem, 1) := by decide +kernel
theorem dX10_walks_40 : decode cX10_walks 40 = .ok (.iadd, 1) := by decide +kernel
theorem dX10_walks_41 : decode cX10_walks 41 = .ok (.iaload, 1) := by decide +kernel
theorem dX10_walks_42 : decode cX10_walks 42 = .ok (.istore_n 2, 1) := by decide +kernel
theorem dX10_walks_43 : decode cX10_walks 43 = .ok (.iload_n 2, 1) := by decide +kernel
theorem dX10_walks_44 : decode cX10_walks 44 = .ok (.iconst (-1), 1) := by decide +kernel
theorem dX10_walks_45 : decode cX10_walks 45 = .ok (.if_icmp .eq 42, 3) := by decide +kernel
theorem dX10_walks_48 : decode cX10_walks 48 = .ok (.aload_n 0, 1) := by decide +kernel
theorem dX10_walks_49 : decode cX10_walks 49 = .ok (.iload_n 2, 1) := by decide +kernel
theorem dX10_walks_50 : decode cX10_walks 50 = .ok (.invokevirtual 128, 3) := by decide +kernel
theorem dX10_walks_53 : decode cX10_walks 53 = .ok (.ifCond .eq 34, 3) := by decide +kernel
theorem dX10_walks_56 : decode cX10_walks 56 = .ok (.aload_n 0, 1) := by decide +kernel
theorem dX10_walks_57 : decode cX10_walks 57 = .ok (.getfield 19, 3) := by decide +kernel
theorem dX10_walks_60 : decode cX10_walks 60 = .ok (.aload_n 0, 1) := by decide +kernel
theorem dX10_walks_61 : decode cX10_walks 61 = .ok (.getfield 7, 3) := by decide +kernel
theorem dX10_walks_64 : decode cX10_walks 64 = .ok (.bipush 56, 2) := by decide +kernel
theorem dX10_walks_66 : decode cX10_walks 66 = .ok (.iload_n 1, 1) := by decide +kernel
theorem dX10_walks_67 : decode cX10_walks 67 = .ok (.iadd, 1) := by decide +kernel
theorem dX10_walks_68 : decode cX10_walks 68 = .ok (.iaload, 1) := by decide +kernel
theorem dX10_walks_69 : decode cX10_walks 69 = .ok (.iaload, 1) := by decide +kernel
theorem dX10_walks_70 : decode cX10_walks 70 = .ok (.iload_n 2, 1) := by decide +kernel
theorem dX10_walks_71 : decode cX10_walks 71 = .ok (.invokestatic 120, 3) := by decide +kernel
theorem dX10_walks_74 : decode cX10_walks 74 = .ok (.ifCond .eq 13, 3) := by decide +kernel
theorem dX10_walks_77 : decode cX10_walks 77 = .ok (.aload_n 0, 1) := by decide +kernel
theorem dX10_walks_78 : decode cX10_walks 78 = .ok (.getfield 7, 3) := by decide +kernel
theorem dX10_walks_81 : decode cX10_walks 81 = .ok (.bipush 56, 2) := by decide +kernel
theorem dX10_walks_83 : decode cX10_walks 83 = .ok (.iload_n 1, 1) := by decide +kernel
theorem dX10_walks_84 : decode cX10_walks 84 = .ok (.iadd, 1) := by decide +kernel
theorem dX10_walks_85 : decode cX10_walks 85 = .ok (.iload_n 2, 1) := by decide +kernel
theorem dX10_walks_86 : decode cX10_walks 86 = .ok (.iastore, 1) := by decide +kernel
theorem dX10_walks_87 : decode cX10_walks 87 = .ok (.return_, 1) := by decide +kernel
theorem dX10_pays_0 : decode cX10_pays 0 = .ok (.aload_n 0, 1) := by decide +kernel
theorem dX10_pays_1 : decode cX10_pays 1 = .ok (.iload_n 1, 1) := by decide +kernel
theorem dX10_pays_2 : decode cX10_pays 2 = .ok (.invokevirtual 297, 3) := by decide +kernel
theorem dX10_pays_5 : decode cX10_pays 5 = .ok (.aload_n 0, 1) := by decide +kernel
theorem dX10_pays_6 : decode cX10_pays 6 = .ok (.bipush 119, 2) := by decide +kernel
theorem dX10_pays_8 : decode cX10_pays 8 = .ok (.bipush 99, 2) := by decide +kernel
theorem dX10_pays_10 : decode cX10_pays 10 = .ok (.invokevirtual 300, 3) := by decide +kernel
theorem dX10_pays_13 : decode cX10_pays 13 = .ok (.istore_n 2, 1) := by decide +kernel
theorem dX10_pays_14 : decode cX10_pays 14 = .ok (.iconst 0, 1) := by decide +kernel
theorem dX10_pays_15 : decode cX10_pays 15 = .ok (.istore_n 3, 1) := by decide +kernel
theorem dX10_pays_16 : decode cX10_pays 16 = .ok (.iload_n 3, 1) := by decide +kernel
theorem dX10_pays_17 : decode cX10_pays 17 = .ok (.bipush 8, 2) := by decide +kernel
theorem dX10_pays_19 : decode cX10_pays 19 = .ok (.if_icmp .ge 75, 3) := by decide +kernel
theorem dX10_pays_22 : decode cX10_pays 22 = .ok (.aload_n 0, 1) := by decide +kernel
theorem dX10_pays_23 : decode cX10_pays 23 = .ok (.iload_n 1, 1) := by decide +kernel
theorem dX10_pays_24 : decode cX10_pays 24 = .ok (.invokevirtual 241, 3) := by decide +kernel
theorem dX10_pays_27 : decode cX10_pays 27 = .ok (.iload_n 3, 1) := by decide +kernel
theorem dX10_pays_28 : decode cX10_pays 28 = .ok (.invokestatic 120, 3) := by decide +kernel
theorem dX10_pays_31 : decode cX10_pays 31 = .ok (.ifCond .ne 6, 3) := by decide +kernel
theorem dX10_pays_34 : decode cX10_pays 34 = .ok (.goto 54, 3) := by decide +kernel
theorem dX10_pays_37 : decode cX10_pays 37 = .ok (.iload_n 2, 1) := by decide +kernel
theorem dX10_pays_38 : decode cX10_pays 38 = .ok (.ldc_w 303, 3) := by decide +kernel
theorem dX10_pays_41 : decode cX10_pays 41 = .ok (.aload_n 0, 1) := by decide +kernel
theorem dX10_pays_42 : decode cX10_pays 42 = .ok (.getfield 7, 3) := by decide +kernel
theorem dX10_pays_45 : decode cX10_pays 45 = .ok (.bipush 64, 2) := by decide +kernel
theorem dX10_pays_47 : decode cX10_pays 47 = .ok (.iload_n 3, 1) := by decide +kernel
theorem dX10_pays_48 : decode cX10_pays 48 = .ok (.iadd, 1) := by decide +kernel
theorem dX10_pays_49 : decode cX10_pays 49 = .ok (.iaload, 1) := by decide +kernel
theorem dX10_pays_50 : decode cX10_pays 50 = .ok (.isub, 1) := by decide +kernel
theorem dX10_pays_51 : decode cX10_pays 51 = .ok (.invokestatic 284, 3) := by decide +kernel
theorem dX10_pays_54 : decode cX10_pays 54 = .ok (.istore 4, 2) := by decide +kernel
theorem dX10_pays_56 : decode cX10_pays 56 = .ok (.aload_n 0, 1) := by decide +kernel
theorem dX10_pays_57 : decode cX10_pays 57 = .ok (.getfield 7, 3) := by decide +kernel
theorem dX10_pays_60 : decode cX10_pays 60 = .ok (.bipush 64, 2) := by decide +kernel
theorem dX10_pays_62 : decode cX10_pays 62 = .ok (.iload_n 3, 1) := by decide +kernel
theorem dX10_pays_63 : decode cX10_pays 63 = .ok (.iadd, 1) := by decide +kernel
theorem dX10_pays_64 : decode cX10_pays 64 = .ok (.aload_n 0, 1) := by decide +kernel
theorem dX10_pays_65 : decode cX10_pays 65 = .ok (.getfield 7, 3) := by decide +kernel
theorem dX10_pays_68 : decode cX10_pays 68 = .ok (.bipush 64, 2) := by decide +kernel
theorem dX10_pays_70 : decode cX10_pays 70 = .ok (.iload_n 3, 1) := by decide +kernel
theorem dX10_pays_71 : decode cX10_pays 71 = .ok (.iadd, 1) := by decide +kernel
theorem dX10_pays_72 : decode cX10_pays 72 = .ok (.iaload, 1) := by decide +kernel
theorem dX10_pays_73 : decode cX10_pays 73 = .ok (.iload 4, 2) := by decide +kernel
theorem dX10_pays_75 : decode cX10_pays 75 = .ok (.iadd, 1) := by decide +kernel
theorem dX10_pays_76 : decode cX10_pays 76 = .ok (.iastore, 1) := by decide +kernel
theorem dX10_pays_77 : decode cX10_pays 77 = .ok (.aload_n 0, 1) := by decide +kernel
theorem dX10_pays_78 : decode cX10_pays 78 = .ok (.aload_n 0, 1) := by decide +kernel
theorem dX10_pays_79 : decode cX10_pays 79 = .ok (.getfield 304, 3) := by decide +kernel
theorem dX10_pays_82 : decode cX10_pays 82 = .ok (.iload 4, 2) := by decide +kernel
theorem dX10_pays_84 : decode cX10_pays 84 = .ok (.iadd, 1) := by decide +kernel
theorem dX10_pays_85 : decode cX10_pays 85 = .ok (.putfield 304, 3) := by decide +kernel
theorem dX10_pays_88 : decode cX10_pays 88 = .ok (.iinc 3 1, 3) := by decide +kernel
theorem dX10_pays_91 : decode cX10_pays 91 = .ok (.goto (-75), 3) := by decide +kernel
theorem dX10_pays_94 : decode cX10_pays 94 = .ok (.return_, 1) := by decide +kernel
theorem dX10_turnOf_0 : decode cX10_turnOf 0 = .ok (.aload_n 0, 1) := by decide +kernel
theorem dX10_turnOf_1 : decode cX10_turnOf 1 = .ok (.iload_n 1, 1) := by decide +kernel
theorem dX10_turnOf_2 : decode cX10_turnOf 2 = .ok (.invokevirtual 297, 3) := by decide +kernel
theorem dX10_turnOf_5 : decode cX10_turnOf 5 = .ok (.aload_n 0, 1) := by decide +kernel
theorem dX10_turnOf_6 : decode cX10_turnOf 6 = .ok (.bipush 115, 2) := by decide +kernel
theorem dX10_turnOf_8 : decode cX10_turnOf 8 = .ok (.invokevirtual 307, 3) := by decide +kernel
theorem dX10_turnOf_11 : decode cX10_turnOf 11 = .ok (.ifCond .eq 4, 3) := by decide +kernel
theorem dX10_turnOf_14 : decode cX10_turnOf 14 = .ok (.return_, 1) := by decide +kernel
theorem dX10_turnOf_15 : decode cX10_turnOf 15 = .ok (.aload_n 0, 1) := by decide +kernel
theorem dX10_turnOf_16 : decode cX10_turnOf 16 = .ok (.bipush 114, 2) := by decide +kernel
theorem dX10_turnOf_18 : decode cX10_turnOf 18 = .ok (.bipush 10, 2) := by decide +kernel
theorem dX10_turnOf_20 : decode cX10_turnOf 20 = .ok (.invokevirtual 300, 3) := by decide +kernel
theorem dX10_turnOf_23 : decode cX10_turnOf 23 = .ok (.istore_n 2, 1) := by decide +kernel
theorem dX10_turnOf_24 : decode cX10_turnOf 24 = .ok (.aload_n 0, 1) := by decide +kernel
theorem dX10_turnOf_25 : decode cX10_turnOf 25 = .ok (.getfield 7, 3) := by decide +kernel
theorem dX10_turnOf_28 : decode cX10_turnOf 28 = .ok (.bipush 75, 2) := by decide +kernel
theorem dX10_turnOf_30 : decode cX10_turnOf 30 = .ok (.sipush 25173, 3) := by decide +kernel
theorem dX10_turnOf_33 : decode cX10_turnOf 33 = .ok (.aload_n 0, 1) := by decide +kernel
theorem dX10_turnOf_34 : decode cX10_turnOf 34 = .ok (.getfield 7, 3) := by decide +kernel
theorem dX10_turnOf_37 : decode cX10_turnOf 37 = .ok (.bipush 75, 2) := by decide +kernel
theorem dX10_turnOf_39 : decode cX10_turnOf 39 = .ok (.iaload, 1) := by decide +kernel
theorem dX10_turnOf_40 : decode cX10_turnOf 40 = .ok (.imul, 1) := by decide +kernel
theorem dX10_turnOf_41 : decode cX10_turnOf 41 = .ok (.sipush 13849, 3) := by decide +kernel
theorem dX10_turnOf_44 : decode cX10_turnOf 44 = .ok (.iadd, 1) := by decide +kernel
theorem dX10_turnOf_45 : decode cX10_turnOf 45 = .ok (.ldc_w 310, 3) := by decide +kernel
theorem dX10_turnOf_48 : decode cX10_turnOf 48 = .ok (.irem, 1) := by decide +kernel
theorem dX10_turnOf_49 : decode cX10_turnOf 49 = .ok (.iastore, 1) := by decide +kernel
theorem dX10_turnOf_50 : decode cX10_turnOf 50 = .ok (.aload_n 0, 1) := by decide +kernel
theorem dX10_turnOf_51 : decode cX10_turnOf 51 = .ok (.iload_n 1, 1) := by decide +kernel
theorem dX10_turnOf_52 : decode cX10_turnOf 52 = .ok (.invokevirtual 241, 3) := by decide +kernel
theorem dX10_turnOf_55 : decode cX10_turnOf 55 = .ok (.ifCond .eq 11, 3) := by decide +kernel
theorem dX10_turnOf_58 : decode cX10_turnOf 58 = .ok (.aload_n 0, 1) := by decide +kernel
theorem dX10_turnOf_59 : decode cX10_turnOf 59 = .ok (.iload_n 1, 1) := by decide +kernel
theorem dX10_turnOf_60 : decode cX10_turnOf 60 = .ok (.invokevirtual 311, 3) := by decide +kernel
theorem dX10_turnOf_63 : decode cX10_turnOf 63 = .ok (.goto 79, 3) := by decide +kernel
theorem dX10_turnOf_66 : decode cX10_turnOf 66 = .ok (.aload_n 0, 1) := by decide +kernel
theorem dX10_turnOf_67 : decode cX10_turnOf 67 = .ok (.getfield 7, 3) := by decide +kernel
theorem dX10_turnOf_70 : decode cX10_turnOf 70 = .ok (.bipush 75, 2) := by decide +kernel
theorem dX10_turnOf_72 : decode cX10_turnOf 72 = .ok (.iaload, 1) := by decide +kernel
theorem dX10_turnOf_73 : decode cX10_turnOf 73 = .ok (.bipush 10, 2) := by decide +kernel
theorem dX10_turnOf_75 : decode cX10_turnOf 75 = .ok (.irem, 1) := by decide +kernel
theorem dX10_turnOf_76 : decode cX10_turnOf 76 = .ok (.iload_n 2, 1) := by decide +kernel
theorem dX10_turnOf_77 : decode cX10_turnOf 77 = .ok (.if_icmp .ge 65, 3) := by decide +kernel
theorem dX10_turnOf_80 : decode cX10_turnOf 80 = .ok (.aload_n 0, 1) := by decide +kernel
theorem dX10_turnOf_81 : decode cX10_turnOf 81 = .ok (.getfield 7, 3) := by decide +kernel
theorem dX10_turnOf_84 : decode cX10_turnOf 84 = .ok (.bipush 73, 2) := by decide +kernel
theorem dX10_turnOf_86 : decode cX10_turnOf 86 = .ok (.sipush 9999, 3) := by decide +kernel
theorem dX10_turnOf_89 : decode cX10_turnOf 89 = .ok (.aload_n 0, 1) := by decide +kernel
theorem dX10_turnOf_90 : decode cX10_turnOf 90 = .ok (.getfield 7, 3) := by decide +kernel
theorem dX10_turnOf_93 : decode cX10_turnOf 93 = .ok (.bipush 73, 2) := by decide +kernel
theorem dX10_turnOf_95 : decode cX10_turnOf 95 = .ok (.iaload, 1) := by decide +kernel
theorem dX10_turnOf_96 : decode cX10_turnOf 96 = .ok (.iconst 1, 1) := by decide +kernel
theorem dX10_turnOf_97 : decode cX10_turnOf 97 = .ok (.iadd, 1) := by decide +kernel
theorem dX10_turnOf_98 : decode cX10_turnOf 98 = .ok (.invokestatic 284, 3) := by decide +kernel
theorem dX10_turnOf_101 : decode cX10_turnOf 101 = .ok (.iastore, 1) := by decide +kernel
theorem dX10_turnOf_102 : decode cX10_turnOf 102 = .ok (.aload_n 0, 1) := by decide +kernel
theorem dX10_turnOf_103 : decode cX10_turnOf 103 = .ok (.getfield 7, 3) := by decide +kernel
theorem dX10_turnOf_106 : decode cX10_turnOf 106 = .ok (.bipush 72, 2) := by decide +kernel
theorem dX10_turnOf_108 : decode cX10_turnOf 108 = .ok (.ldc_w 303, 3) := by decide +kernel
theorem dX10_turnOf_111 : decode cX10_turnOf 111 = .ok (.aload_n 0, 1) := by decide +kernel
theorem dX10_turnOf_112 : decode cX10_turnOf 112 = .ok (.getfield 7, 3) := by decide +kernel
theorem dX10_turnOf_115 : decode cX10_turnOf 115 = .ok (.bipush 72, 2) := by decide +kernel
theorem dX10_turnOf_117 : decode cX10_turnOf 117 = .ok (.iaload, 1) := by decide +kernel
theorem dX10_turnOf_118 : decode cX10_turnOf 118 = .ok (.aload_n 0, 1) := by decide +kernel
theorem dX10_turnOf_119 : decode cX10_turnOf 119 = .ok (.getfield 7, 3) := by decide +kernel
theorem dX10_turnOf_122 : decode cX10_turnOf 122 = .ok (.bipush 16, 2) := by decide +kernel
theorem dX10_turnOf_124 : decode cX10_turnOf 124 = .ok (.iload_n 1, 1) := by decide +kernel
theorem dX10_turnOf_125 : decode cX10_turnOf 125 = .ok (.iadd, 1) := by decide +kernel
theorem dX10_turnOf_126 : decode cX10_turnOf 126 = .ok (.iaload, 1) := by decide +kernel
theorem dX10_turnOf_127 : decode cX10_turnOf 127 = .ok (.iadd, 1) := by decide +kernel
theorem dX10_turnOf_128 : decode cX10_turnOf 128 = .ok (.invokestatic 284, 3) := by decide +kernel
theorem dX10_turnOf_131 : decode cX10_turnOf 131 = .ok (.iastore, 1) := by decide +kernel
theorem dX10_turnOf_132 : decode cX10_turnOf 132 = .ok (.aload_n 0, 1) := by decide +kernel
theorem dX10_turnOf_133 : decode cX10_turnOf 133 = .ok (.aload_n 0, 1) := by decide +kernel
theorem dX10_turnOf_134 : decode cX10_turnOf 134 = .ok (.getfield 314, 3) := by decide +kernel
theorem dX10_turnOf_137 : decode cX10_turnOf 137 = .ok (.iconst 1, 1) := by decide +kernel
theorem dX10_turnOf_138 : decode cX10_turnOf 138 = .ok (.iadd, 1) := by decide +kernel
theorem dX10_turnOf_139 : decode cX10_turnOf 139 = .ok (.putfield 314, 3) := by decide +kernel
theorem dX10_turnOf_142 : decode cX10_turnOf 142 = .ok (.return_, 1) := by decide +kernel
theorem dX10_hourGoes_0 : decode cX10_hourGoes 0 = .ok (.iconst 0, 1) := by decide +kernel
theorem dX10_hourGoes_1 : decode cX10_hourGoes 1 = .ok (.istore_n 1, 1) := by decide +kernel
theorem dX10_hourGoes_2 : decode cX10_hourGoes 2 = .ok (.iload_n 1, 1) := by decide +kernel
theorem dX10_hourGoes_3 : decode cX10_hourGoes 3 = .ok (.bipush 8, 2) := by decide +kernel
theorem dX10_hourGoes_5 : decode cX10_hourGoes 5 = .ok (.if_icmp .ge 14, 3) := by decide +kernel
theorem dX10_hourGoes_8 : decode cX10_hourGoes 8 = .ok (.aload_n 0, 1) := by decide +kernel
theorem dX10_hourGoes_9 : decode cX10_hourGoes 9 = .ok (.iload_n 1, 1) := by decide +kernel
theorem dX10_hourGoes_10 : decode cX10_hourGoes 10 = .ok (.invokevirtual 317, 3) := by decide +kernel
theorem dX10_hourGoes_13 : decode cX10_hourGoes 13 = .ok (.iinc 1 1, 3) := by decide +kernel
theorem dX10_hourGoes_16 : decode cX10_hourGoes 16 = .ok (.goto (-14), 3) := by decide +kernel
theorem dX10_hourGoes_19 : decode cX10_hourGoes 19 = .ok (.iconst 0, 1) := by decide +kernel
theorem dX10_hourGoes_20 : decode cX10_hourGoes 20 = .ok (.istore_n 1, 1) := by decide +kernel
theorem dX10_hourGoes_21 : decode cX10_hourGoes 21 = .ok (.iload_n 1, 1) := by decide +kernel
theorem dX10_hourGoes_22 : decode cX10_hourGoes 22 = .ok (.bipush 16, 2) := by decide +kernel
theorem dX10_hourGoes_24 : decode cX10_hourGoes 24 = .ok (.if_icmp .ge 54, 3) := by decide +kernel
theorem dX10_hourGoes_27 : decode cX10_hourGoes 27 = .ok (.aload_n 0, 1) := by decide +kernel
theorem dX10_hourGoes_28 : decode cX10_hourGoes 28 = .ok (.iload_n 1, 1) := by decide +kernel
theorem dX10_hourGoes_29 : decode cX10_hourGoes 29 = .ok (.invokevirtual 128, 3) := by decide +kernel
theorem dX10_hourGoes_32 : decode cX10_hourGoes 32 = .ok (.ifCond .eq 40, 3) := by decide +kernel
theorem dX10_hourGoes_35 : decode cX10_hourGoes 35 = .ok (.aload_n 0, 1) := by decide +kernel
theorem dX10_hourGoes_36 : decode cX10_hourGoes 36 = .ok (.getfield 7, 3) := by decide +kernel
theorem dX10_hourGoes_39 : decode cX10_hourGoes 39 = .ok (.bipush 32, 2) := by decide +kernel
theorem dX10_hourGoes_41 : decode cX10_hourGoes 41 = .ok (.iload_n 1, 1) := by decide +kernel
theorem dX10_hourGoes_42 : decode cX10_hourGoes 42 = .ok (.iadd, 1) := by decide +kernel
theorem dX10_hourGoes_43 : decode cX10_hourGoes 43 = .ok (.aload_n 0, 1) := by decide +kernel
theorem dX10_hourGoes_44 : decode cX10_hourGoes 44 = .ok (.iload_n 1, 1) := by decide +kernel
theorem dX10_hourGoes_45 : decode cX10_hourGoes 45 = .ok (.invokevirtual 241, 3) := by decide +kernel
theorem dX10_hourGoes_48 : decode cX10_hourGoes 48 = .ok (.ifCond .eq 7, 3) := by decide +kernel
theorem dX10_hourGoes_51 : decode cX10_hourGoes 51 = .ok (.iconst 0, 1) := by decide +kernel
theorem dX10_hourGoes_52 : decode cX10_hourGoes 52 = .ok (.goto 19, 3) := by decide +kernel
theorem dX10_hourGoes_55 : decode cX10_hourGoes 55 = .ok (.bipush 99, 2) := by decide +kernel
theorem dX10_hourGoes_57 : decode cX10_hourGoes 57 = .ok (.aload_n 0, 1) := by decide +kernel
theorem dX10_hourGoes_58 : decode cX10_hourGoes 58 = .ok (.getfield 7, 3) := by decide +kernel
theorem dX10_hourGoes_61 : decode cX10_hourGoes 61 = .ok (.bipush 32, 2) := by decide +kernel
theorem dX10_hourGoes_63 : decode cX10_hourGoes 63 = .ok (.iload_n 1, 1) := by decide +kernel
theorem dX10_hourGoes_64 : decode cX10_hourGoes 64 = .ok (.iadd, 1) := by decide +kernel
theorem dX10_hourGoes_65 : decode cX10_hourGoes 65 = .ok (.iaload, 1) := by decide +kernel
theorem dX10_hourGoes_66 : decode cX10_hourGoes 66 = .ok (.iconst 1, 1) := by decide +kernel
theorem dX10_hourGoes_67 : decode cX10_hourGoes 67 = .ok (.iadd, 1) := by decide +kernel
theorem dX10_hourGoes_68 : decode cX10_hourGoes 68 = .ok (.invokestatic 284, 3) := by decide +kernel
theorem dX10_hourGoes_71 : decode cX10_hourGoes 71 = .ok (.iastore, 1) := by decide +kernel
theorem dX10_hourGoes_72 : decode cX10_hourGoes 72 = .ok (.iinc 1 1, 3) := by decide +kernel
theorem dX10_hourGoes_75 : decode cX10_hourGoes 75 = .ok (.goto (-54), 3) := by decide +kernel
theorem dX10_hourGoes_78 : decode cX10_hourGoes 78 = .ok (.iconst 0, 1) := by decide +kernel
theorem dX10_hourGoes_79 : decode cX10_hourGoes 79 = .ok (.istore_n 1, 1) := by decide +kernel
theorem dX10_hourGoes_80 : decode cX10_hourGoes 80 = .ok (.iload_n 1, 1) := by decide +kernel
theorem dX10_hourGoes_81 : decode cX10_hourGoes 81 = .ok (.bipush 16, 2) := by decide +kernel
theorem dX10_hourGoes_83 : decode cX10_hourGoes 83 = .ok (.if_icmp .ge 22, 3) := by decide +kernel
theorem dX10_hourGoes_86 : decode cX10_hourGoes 86 = .ok (.aload_n 0, 1) := by decide +kernel
theorem dX10_hourGoes_87 : decode cX10_hourGoes 87 = .ok (.iload_n 1, 1) := by decide +kernel
theorem dX10_hourGoes_88 : decode cX10_hourGoes 88 = .ok (.invokevirtual 128, 3) := by decide +kernel
theorem dX10_hourGoes_91 : decode cX10_hourGoes 91 = .ok (.ifCond .eq 8, 3) := by decide +kernel
theorem dX10_hourGoes_94 : decode cX10_hourGoes 94 = .ok (.aload_n 0, 1) := by decide +kernel
theorem dX10_hourGoes_95 : decode cX10_hourGoes 95 = .ok (.iload_n 1, 1) := by decide +kernel
theorem dX10_hourGoes_96 : decode cX10_hourGoes 96 = .ok (.invokevirtual 320, 3) := by decide +kernel
theorem dX10_hourGoes_99 : decode cX10_hourGoes 99 = .ok (.iinc 1 1, 3) := by decide +kernel
theorem dX10_hourGoes_102 : decode cX10_hourGoes 102 = .ok (.goto (-22), 3) := by decide +kernel
theorem dX10_hourGoes_105 : decode cX10_hourGoes 105 = .ok (.aload_n 0, 1) := by decide +kernel
theorem dX10_hourGoes_106 : decode cX10_hourGoes 106 = .ok (.getfield 7, 3) := by decide +kernel
theorem dX10_hourGoes_109 : decode cX10_hourGoes 109 = .ok (.bipush 74, 2) := by decide +kernel
theorem dX10_hourGoes_111 : decode cX10_hourGoes 111 = .ok (.aload_n 0, 1) := by decide +kernel
theorem dX10_hourGoes_112 : decode cX10_hourGoes 112 = .ok (.getfield 7, 3) := by decide +kernel
theorem dX10_hourGoes_115 : decode cX10_hourGoes 115 = .ok (.bipush 74, 2) := by decide +kernel
theorem dX10_hourGoes_117 : decode cX10_hourGoes 117 = .ok (.iaload, 1) := by decide +kernel
theorem dX10_hourGoes_118 : decode cX10_hourGoes 118 = .ok (.iconst 1, 1) := by decide +kernel
theorem dX10_hourGoes_119 : decode cX10_hourGoes 119 = .ok (.iadd, 1) := by decide +kernel
theorem dX10_hourGoes_120 : decode cX10_hourGoes 120 = .ok (.iastore, 1) := by decide +kernel
theorem dX10_hourGoes_121 : decode cX10_hourGoes 121 = .ok (.return_, 1) := by decide +kernel
theorem dX10_hoursGo_0 : decode cX10_hoursGo 0 = .ok (.aload_n 0, 1) := by decide +kernel
theorem dX10_hoursGo_1 : decode cX10_hoursGo 1 = .ok (.iconst 0, 1) := by decide +kernel
theorem dX10_hoursGo_2 : decode cX10_hoursGo 2 = .ok (.putfield 314, 3) := by decide +kernel
theorem dX10_hoursGo_5 : decode cX10_hoursGo 5 = .ok (.aload_n 0, 1) := by decide +kernel
theorem dX10_hoursGo_6 : decode cX10_hoursGo 6 = .ok (.iconst 0, 1) := by decide +kernel
theorem dX10_hoursGo_7 : decode cX10_hoursGo 7 = .ok (.putfield 304, 3) := by decide +kernel
theorem dX10_hoursGo_10 : decode cX10_hoursGo 10 = .ok (.iconst 0, 1) := by decide +kernel
theorem dX10_hoursGo_11 : decode cX10_hoursGo 11 = .ok (.istore_n 2, 1) := by decide +kernel
theorem dX10_hoursGo_12 : decode cX10_hoursGo 12 = .ok (.iload_n 2, 1) := by decide +kernel
theorem dX10_hoursGo_13 : decode cX10_hoursGo 13 = .ok (.iload_n 1, 1) := by decide +kernel
theorem dX10_hoursGo_14 : decode cX10_hoursGo 14 = .ok (.if_icmp .ge 26, 3) := by decide +kernel
theorem dX10_hoursGo_17 : decode cX10_hoursGo 17 = .ok (.aload_n 0, 1) := by decide +kernel
theorem dX10_hoursGo_18 : decode cX10_hoursGo 18 = .ok (.getfield 7, 3) := by decide +kernel
theorem dX10_hoursGo_21 : decode cX10_hoursGo 21 = .ok (.bipush 74, 2) := by decide +kernel
theorem dX10_hoursGo_23 : decode cX10_hoursGo 23 = .ok (.iaload, 1) := by decide +kernel
theorem dX10_hoursGo_24 : decode cX10_hoursGo 24 = .ok (.sipush 9999, 3) := by decide +kernel
theorem dX10_hoursGo_27 : decode cX10_hoursGo 27 = .ok (.if_icmp .ge 13, 3) := by decide +kernel
theorem dX10_hoursGo_30 : decode cX10_hoursGo 30 = .ok (.aload_n 0, 1) := by decide +kernel
theorem dX10_hoursGo_31 : decode cX10_hoursGo 31 = .ok (.invokevirtual 323, 3) := by decide +kernel
theorem dX10_hoursGo_34 : decode cX10_hoursGo 34 = .ok (.iinc 2 1, 3) := by decide +kernel
theorem dX10_hoursGo_37 : decode cX10_hoursGo 37 = .ok (.goto (-25), 3) := by decide +kernel
theorem dX10_hoursGo_40 : decode cX10_hoursGo 40 = .ok (.return_, 1) := by decide +kernel
theorem dX10_hours_0 : decode cX10_hours 0 = .ok (.iload_n 1, 1) := by decide +kernel
theorem dX10_hours_1 : decode cX10_hours 1 = .ok (.iconst 1, 1) := by decide +kernel
theorem dX10_hours_2 : decode cX10_hours 2 = .ok (.sipush 240, 3) := by decide +kernel
theorem dX10_hours_5 : decode cX10_hours 5 = .ok (.invokestatic 112, 3) := by decide +kernel
theorem dX10_hours_8 : decode cX10_hours 8 = .ok (.ifCond .ne 5, 3) := by decide +kernel
theorem dX10_hours_11 : decode cX10_hours 11 = .ok (.iconst (-1), 1) := by decide +kernel
theorem dX10_hours_12 : decode cX10_hours 12 = .ok (.ireturn, 1) := by decide +kernel
theorem dX10_hours_13 : decode cX10_hours 13 = .ok (.aload_n 0, 1) := by decide +kernel
theorem dX10_hours_14 : decode cX10_hours 14 = .ok (.iload_n 1, 1) := by decide +kernel
theorem dX10_hours_15 : decode cX10_hours 15 = .ok (.invokevirtual 326, 3) := by decide +kernel
theorem dX10_hours_18 : decode cX10_hours 18 = .ok (.aload_n 0, 1) := by decide +kernel
theorem dX10_hours_19 : decode cX10_hours 19 = .ok (.getfield 314, 3) := by decide +kernel
theorem dX10_hours_22 : decode cX10_hours 22 = .ok (.ireturn, 1) := by decide +kernel
theorem dX10_canTry_0 : decode cX10_canTry 0 = .ok (.iload_n 1, 1) := by decide +kernel
theorem dX10_canTry_1 : decode cX10_canTry 1 = .ok (.iconst 0, 1) := by decide +kernel
theorem dX10_canTry_2 : decode cX10_canTry 2 = .ok (.iconst 2, 1) := by decide +kernel
theorem dX10_canTry_3 : decode cX10_canTry 3 = .ok (.invokestatic 112, 3) := by decide +kernel
theorem dX10_canTry_6 : decode cX10_canTry 6 = .ok (.ifCond .ne 36, 3) := by decide +kernel
theorem dX10_canTry_9 : decode cX10_canTry 9 = .ok (.aload_n 0, 1) := by decide +kernel
theorem dX10_canTry_10 : decode cX10_canTry 10 = .ok (.iload_n 1, 1) := by decide +kernel
theorem dX10_canTry_11 : decode cX10_canTry 11 = .ok (.bipush 10, 2) := by decide +kernel
theorem dX10_canTry_13 : decode cX10_canTry 13 = .ok (.isub, 1) := by decide +kernel
theorem dX10_canTry_14 : decode cX10_canTry 14 = .ok (.invokevirtual 124, 3) := by decide +kernel
theorem dX10_canTry_17 : decode cX10_canTry 17 = .ok (.ifCond .ne 25, 3) := by decide +kernel
theorem dX10_canTry_20 : decode cX10_canTry 20 = .ok (.aload_n 0, 1) := by decide +kernel
theorem dX10_canTry_21 : decode cX10_canTry 21 = .ok (.iload_n 1, 1) := by decide +kernel
theorem dX10_canTry_22 : decode cX10_canTry 22 = .ok (.bipush 20, 2) := by decide +kernel
theorem dX10_canTry_24 : decode cX10_canTry 24 = .ok (.isub, 1) := by decide +kernel
theorem dX10_canTry_25 : decode cX10_canTry 25 = .ok (.invokevirtual 124, 3) := by decide +kernel
theorem dX10_canTry_28 : decode cX10_canTry 28 = .ok (.ifCond .ne 14, 3) := by decide +kernel
theorem dX10_canTry_31 : decode cX10_canTry 31 = .ok (.aload_n 0, 1) := by decide +kernel
theorem dX10_canTry_32 : decode cX10_canTry 32 = .ok (.iload_n 1, 1) := by decide +kernel
theorem dX10_canTry_33 : decode cX10_canTry 33 = .ok (.bipush 30, 2) := by decide +kernel
theorem dX10_canTry_35 : decode cX10_canTry 35 = .ok (.isub, 1) := by decide +kernel
theorem dX10_canTry_36 : decode cX10_canTry 36 = .ok (.invokevirtual 128, 3) := by decide +kernel
theorem dX10_canTry_39 : decode cX10_canTry 39 = .ok (.ifCond .eq 7, 3) := by decide +kernel
theorem dX10_canTry_42 : decode cX10_canTry 42 = .ok (.iconst 1, 1) := by decide +kernel
theorem dX10_canTry_43 : decode cX10_canTry 43 = .ok (.goto 4, 3) := by decide +kernel
theorem dX10_canTry_46 : decode cX10_canTry 46 = .ok (.iconst 0, 1) := by decide +kernel
theorem dX10_canTry_47 : decode cX10_canTry 47 = .ok (.ireturn, 1) := by decide +kernel
theorem dX10_tried_0 : decode cX10_tried 0 = .ok (.iload_n 1, 1) := by decide +kernel
theorem dX10_tried_1 : decode cX10_tried 1 = .ok (.iconst 1, 1) := by decide +kernel
theorem dX10_tried_2 : decode cX10_tried 2 = .ok (.sipush 240, 3) := by decide +kernel
theorem dX10_tried_5 : decode cX10_tried 5 = .ok (.invokestatic 112, 3) := by decide +kernel
theorem dX10_tried_8 : decode cX10_tried 8 = .ok (.ifCond .eq 11, 3) := by decide +kernel
theorem dX10_tried_11 : decode cX10_tried 11 = .ok (.aload_n 0, 1) := by decide +kernel
theorem dX10_tried_12 : decode cX10_tried 12 = .ok (.iload_n 2, 1) := by decide +kernel
theorem dX10_tried_13 : decode cX10_tried 13 = .ok (.invokevirtual 329, 3) := by decide +kernel
theorem dX10_tried_16 : decode cX10_tried 16 = .ok (.ifCond .ne 5, 3) := by decide +kernel
theorem dX10_tried_19 : decode cX10_tried 19 = .ok (.iconst (-1), 1) := by decide +kernel
theorem dX10_tried_20 : decode cX10_tried 20 = .ok (.ireturn, 1) := by decide +kernel
theorem dX10_tried_21 : decode cX10_tried 21 = .ok (.aload_n 0, 1) := by decide +kernel
theorem dX10_tried_22 : decode cX10_tried 22 = .ok (.getfield 7, 3) := by decide +kernel
theorem dX10_tried_25 : decode cX10_tried 25 = .ok (.aload_n 0, 1) := by decide +kernel
theorem dX10_tried_26 : decode cX10_tried 26 = .ok (.getfield 13, 3) := by decide +kernel
theorem dX10_tried_29 : decode cX10_tried 29 = .ok (.invokestatic 290, 3) := by decide +kernel
theorem dX10_tried_32 : decode cX10_tried 32 = .ok (.aload_n 0, 1) := by decide +kernel
theorem dX10_tried_33 : decode cX10_tried 33 = .ok (.iload_n 1, 1) := by decide +kernel
theorem dX10_tried_34 : decode cX10_tried 34 = .ok (.invokevirtual 326, 3) := by decide +kernel
theorem dX10_tried_37 : decode cX10_tried 37 = .ok (.iload_n 2, 1) := by decide +kernel
theorem dX10_tried_38 : decode cX10_tried 38 = .ok (.tableswitch 61 0 2 #[26, 34, 42], 26) := by decide +kernel
theorem dX10_tried_64 : decode cX10_tried 64 = .ok (.aload_n 0, 1) := by decide +kernel
theorem dX10_tried_65 : decode cX10_tried 65 = .ok (.getfield 314, 3) := by decide +kernel
theorem dX10_tried_68 : decode cX10_tried 68 = .ok (.istore_n 3, 1) := by decide +kernel
theorem dX10_tried_69 : decode cX10_tried 69 = .ok (.goto 85, 3) := by decide +kernel
theorem dX10_tried_72 : decode cX10_tried 72 = .ok (.aload_n 0, 1) := by decide +kernel
theorem dX10_tried_73 : decode cX10_tried 73 = .ok (.getfield 304, 3) := by decide +kernel
theorem dX10_tried_76 : decode cX10_tried 76 = .ok (.istore_n 3, 1) := by decide +kernel
theorem dX10_tried_77 : decode cX10_tried 77 = .ok (.goto 77, 3) := by decide +kernel
theorem dX10_tried_80 : decode cX10_tried 80 = .ok (.aload_n 0, 1) := by decide +kernel
theorem dX10_tried_81 : decode cX10_tried 81 = .ok (.getfield 7, 3) := by decide +kernel
theorem dX10_tried_84 : decode cX10_tried 84 = .ok (.bipush 72, 2) := by decide +kernel
theorem dX10_tried_86 : decode cX10_tried 86 = .ok (.iaload, 1) := by decide +kernel
theorem dX10_tried_87 : decode cX10_tried 87 = .ok (.aload_n 0, 1) := by decide +kernel
theorem dX10_tried_88 : decode cX10_tried 88 = .ok (.getfield 13, 3) := by decide +kernel
theorem dX10_tried_91 : decode cX10_tried 91 = .ok (.bipush 72, 2) := by decide +kernel
theorem dX10_tried_93 : decode cX10_tried 93 = .ok (.iaload, 1) := by decide +kernel
theorem dX10_tried_94 : decode cX10_tried 94 = .ok (.isub, 1) := by decide +kernel
theorem dX10_tried_95 : decode cX10_tried 95 = .ok (.istore_n 3, 1) := by decide +kernel
theorem dX10_tried_96 : decode cX10_tried 96 = .ok (.goto 58, 3) := by decide +kernel
theorem dX10_tried_99 : decode cX10_tried 99 = .ok (.iload_n 2, 1) := by decide +kernel
theorem dX10_tried_100 : decode cX10_tried 100 = .ok (.bipush 20, 2) := by decide +kernel
theorem dX10_tried_102 : decode cX10_tried 102 = .ok (.if_icmp .ge 18, 3) := by decide +kernel
theorem dX10_tried_105 : decode cX10_tried 105 = .ok (.aload_n 0, 1) := by decide +kernel
theorem dX10_tried_106 : decode cX10_tried 106 = .ok (.getfield 7, 3) := by decide +kernel
theorem dX10_tried_109 : decode cX10_tried 109 = .ok (.bipush 56, 2) := by decide +kernel
theorem dX10_tried_111 : decode cX10_tried 111 = .ok (.iload_n 2, 1) := by decide +kernel
theorem dX10_tried_112 : decode cX10_tried 112 = .ok (.iadd, 1) := by decide +kernel
theorem dX10_tried_113 : decode cX10_tried 113 = .ok (.bipush 10, 2) := by decide +kernel
theorem dX10_tried_115 : decode cX10_tried 115 = .ok (.isub, 1) := by decide +kernel
theorem dX10_tried_116 : decode cX10_tried 116 = .ok (.iaload, 1) := by decide +kernel
theorem dX10_tried_117 : decode cX10_tried 117 = .ok (.goto 36, 3) := by decide +kernel
theorem dX10_tried_120 : decode cX10_tried 120 = .ok (.iload_n 2, 1) := by decide +kernel
theorem dX10_tried_121 : decode cX10_tried 121 = .ok (.bipush 30, 2) := by decide +kernel
theorem dX10_tried_123 : decode cX10_tried 123 = .ok (.if_icmp .ge 18, 3) := by decide +kernel
theorem dX10_tried_126 : decode cX10_tried 126 = .ok (.aload_n 0, 1) := by decide +kernel
theorem dX10_tried_127 : decode cX10_tried 127 = .ok (.getfield 7, 3) := by decide +kernel
theorem dX10_tried_130 : decode cX10_tried 130 = .ok (.bipush 64, 2) := by decide +kernel
theorem dX10_tried_132 : decode cX10_tried 132 = .ok (.iload_n 2, 1) := by decide +kernel
theorem dX10_tried_133 : decode cX10_tried 133 = .ok (.iadd, 1) := by decide +kernel
theorem dX10_tried_134 : decode cX10_tried 134 = .ok (.bipush 20, 2) := by decide +kernel
theorem dX10_tried_136 : decode cX10_tried 136 = .ok (.isub, 1) := by decide +kernel
theorem dX10_tried_137 : decode cX10_tried 137 = .ok (.iaload, 1) := by decide +kernel
theorem dX10_tried_138 : decode cX10_tried 138 = .ok (.goto 15, 3) := by decide +kernel
theorem dX10_tried_141 : decode cX10_tried 141 = .ok (.aload_n 0, 1) := by decide +kernel
theorem dX10_tried_142 : decode cX10_tried 142 = .ok (.getfield 7, 3) := by decide +kernel
theorem dX10_tried_145 : decode cX10_tried 145 = .ok (.bipush 32, 2) := by decide +kernel
theorem dX10_tried_147 : decode cX10_tried 147 = .ok (.iload_n 2, 1) := by decide +kernel
theorem dX10_tried_148 : decode cX10_tried 148 = .ok (.iadd, 1) := by decide +kernel
theorem dX10_tried_149 : decode cX10_tried 149 = .ok (.bipush 30, 2) := by decide +kernel
theorem dX10_tried_151 : decode cX10_tried 151 = .ok (.isub, 1) := by decide +kernel
theorem dX10_tried_152 : decode cX10_tried 152 = .ok (.iaload, 1) := by decide +kernel
theorem dX10_tried_153 : decode cX10_tried 153 = .ok (.istore_n 3, 1) := by decide +kernel
theorem dX10_tried_154 : decode cX10_tried 154 = .ok (.aload_n 0, 1) := by decide +kernel
theorem dX10_tried_155 : decode cX10_tried 155 = .ok (.getfield 13, 3) := by decide +kernel
theorem dX10_tried_158 : decode cX10_tried 158 = .ok (.aload_n 0, 1) := by decide +kernel
theorem dX10_tried_159 : decode cX10_tried 159 = .ok (.getfield 7, 3) := by decide +kernel
theorem dX10_tried_162 : decode cX10_tried 162 = .ok (.invokestatic 290, 3) := by decide +kernel
theorem dX10_tried_165 : decode cX10_tried 165 = .ok (.iload_n 3, 1) := by decide +kernel
theorem dX10_tried_166 : decode cX10_tried 166 = .ok (.ireturn, 1) := by decide +kernel
theorem dX10_placeIs_0 : decode cX10_placeIs 0 = .ok (.aload_n 0, 1) := by decide +kernel
theorem dX10_placeIs_1 : decode cX10_placeIs 1 = .ok (.iload_n 1, 1) := by decide +kernel
theorem dX10_placeIs_2 : decode cX10_placeIs 2 = .ok (.invokevirtual 128, 3) := by decide +kernel
theorem dX10_placeIs_5 : decode cX10_placeIs 5 = .ok (.ifCond .ne 5, 3) := by decide +kernel
theorem dX10_placeIs_8 : decode cX10_placeIs 8 = .ok (.iconst (-1), 1) := by decide +kernel
theorem dX10_placeIs_9 : decode cX10_placeIs 9 = .ok (.ireturn, 1) := by decide +kernel
theorem dX10_placeIs_10 : decode cX10_placeIs 10 = .ok (.iload_n 2, 1) := by decide +kernel
theorem dX10_placeIs_11 : decode cX10_placeIs 11 = .ok (.tableswitch 75 0 4 #[33, 42, 52, 62, 68], 33) := by decide +kernel
theorem dX10_placeIs_44 : decode cX10_placeIs 44 = .ok (.aload_n 0, 1) := by decide +kernel
theorem dX10_placeIs_45 : decode cX10_placeIs 45 = .ok (.getfield 7, 3) := by decide +kernel
theorem dX10_placeIs_48 : decode cX10_placeIs 48 = .ok (.iconst 0, 1) := by decide +kernel
theorem dX10_placeIs_49 : decode cX10_placeIs 49 = .ok (.iload_n 1, 1) := by decide +kernel
theorem dX10_placeIs_50 : decode cX10_placeIs 50 = .ok (.iadd, 1) := by decide +kernel
theorem dX10_placeIs_51 : decode cX10_placeIs 51 = .ok (.iaload, 1) := by decide +kernel
theorem dX10_placeIs_52 : decode cX10_placeIs 52 = .ok (.ireturn, 1) := by decide +kernel
theorem dX10_placeIs_53 : decode cX10_placeIs 53 = .ok (.aload_n 0, 1) := by decide +kernel
theorem dX10_placeIs_54 : decode cX10_placeIs 54 = .ok (.getfield 7, 3) := by decide +kernel
theorem dX10_placeIs_57 : decode cX10_placeIs 57 = .ok (.bipush 16, 2) := by decide +kernel
theorem dX10_placeIs_59 : decode cX10_placeIs 59 = .ok (.iload_n 1, 1) := by decide +kernel
theorem dX10_placeIs_60 : decode cX10_placeIs 60 = .ok (.iadd, 1) := by decide +kernel
theorem dX10_placeIs_61 : decode cX10_placeIs 61 = .ok (.iaload, 1) := by decide +kernel
theorem dX10_placeIs_62 : decode cX10_placeIs 62 = .ok (.ireturn, 1) := by decide +kernel
theorem dX10_placeIs_63 : decode cX10_placeIs 63 = .ok (.aload_n 0, 1) := by decide +kernel
theorem dX10_placeIs_64 : decode cX10_placeIs 64 = .ok (.getfield 7, 3) := by decide +kernel
theorem dX10_placeIs_67 : decode cX10_placeIs 67 = .ok (.bipush 32, 2) := by decide +kernel
theorem dX10_placeIs_69 : decode cX10_placeIs 69 = .ok (.iload_n 1, 1) := by decide +kernel
theorem dX10_placeIs_70 : decode cX10_placeIs 70 = .ok (.iadd, 1) := by decide +kernel
theorem dX10_placeIs_71 : decode cX10_placeIs 71 = .ok (.iaload, 1) := by decide +kernel
theorem dX10_placeIs_72 : decode cX10_placeIs 72 = .ok (.ireturn, 1) := by decide +kernel
theorem dX10_placeIs_73 : decode cX10_placeIs 73 = .ok (.aload_n 0, 1) := by decide +kernel
theorem dX10_placeIs_74 : decode cX10_placeIs 74 = .ok (.iload_n 1, 1) := by decide +kernel
theorem dX10_placeIs_75 : decode cX10_placeIs 75 = .ok (.invokevirtual 241, 3) := by decide +kernel
theorem dX10_placeIs_78 : decode cX10_placeIs 78 = .ok (.ireturn, 1) := by decide +kernel
theorem dX10_placeIs_79 : decode cX10_placeIs 79 = .ok (.aload_n 0, 1) := by decide +kernel
theorem dX10_placeIs_80 : decode cX10_placeIs 80 = .ok (.getfield 19, 3) := by decide +kernel
theorem dX10_placeIs_83 : decode cX10_placeIs 83 = .ok (.iload_n 1, 1) := by decide +kernel
theorem dX10_placeIs_84 : decode cX10_placeIs 84 = .ok (.iaload, 1) := by decide +kernel
theorem dX10_placeIs_85 : decode cX10_placeIs 85 = .ok (.ireturn, 1) := by decide +kernel
theorem dX10_placeIs_86 : decode cX10_placeIs 86 = .ok (.iconst (-1), 1) := by decide +kernel
theorem dX10_placeIs_87 : decode cX10_placeIs 87 = .ok (.ireturn, 1) := by decide +kernel
theorem dX10_constableIs_0 : decode cX10_constableIs 0 = .ok (.aload_n 0, 1) := by decide +kernel
theorem dX10_constableIs_1 : decode cX10_constableIs 1 = .ok (.iload_n 1, 1) := by decide +kernel
theorem dX10_constableIs_2 : decode cX10_constableIs 2 = .ok (.invokevirtual 124, 3) := by decide +kernel
theorem dX10_constableIs_5 : decode cX10_constableIs 5 = .ok (.ifCond .ne 5, 3) := by decide +kernel
theorem dX10_constableIs_8 : decode cX10_constableIs 8 = .ok (.iconst (-1), 1) := by decide +kernel
theorem dX10_constableIs_9 : decode cX10_constableIs 9 = .ok (.ireturn, 1) := by decide +kernel
theorem dX10_constableIs_10 : decode cX10_constableIs 10 = .ok (.iload_n 2, 1) := by decide +kernel
theorem dX10_constableIs_11 : decode cX10_constableIs 11 = .ok (.ifCond .ne 15, 3) := by decide +kernel
theorem dX10_constableIs_14 : decode cX10_constableIs 14 = .ok (.aload_n 0, 1) := by decide +kernel
theorem dX10_constableIs_15 : decode cX10_constableIs 15 = .ok (.getfield 7, 3) := by decide +kernel
theorem dX10_constableIs_18 : decode cX10_constableIs 18 = .ok (.bipush 56, 2) := by decide +kernel
theorem dX10_constableIs_20 : decode cX10_constableIs 20 = .ok (.iload_n 1, 1) := by decide +kernel
theorem dX10_constableIs_21 : decode cX10_constableIs 21 = .ok (.iadd, 1) := by decide +kernel
theorem dX10_constableIs_22 : decode cX10_constableIs 22 = .ok (.iaload, 1) := by decide +kernel
theorem dX10_constableIs_23 : decode cX10_constableIs 23 = .ok (.goto 35, 3) := by decide +kernel
theorem dX10_constableIs_26 : decode cX10_constableIs 26 = .ok (.iload_n 2, 1) := by decide +kernel
theorem dX10_constableIs_27 : decode cX10_constableIs 27 = .ok (.iconst 1, 1) := by decide +kernel
theorem dX10_constableIs_28 : decode cX10_constableIs 28 = .ok (.if_icmp .ne 15, 3) := by decide +kernel
theorem dX10_constableIs_31 : decode cX10_constableIs 31 = .ok (.aload_n 0, 1) := by decide +kernel
theorem dX10_constableIs_32 : decode cX10_constableIs 32 = .ok (.getfield 7, 3) := by decide +kernel
theorem dX10_constableIs_35 : decode cX10_constableIs 35 = .ok (.bipush 64, 2) := by decide +kernel
theorem dX10_constableIs_37 : decode cX10_constableIs 37 = .ok (.iload_n 1, 1) := by decide +kernel
theorem dX10_constableIs_38 : decode cX10_constableIs 38 = .ok (.iadd, 1) := by decide +kernel
theorem dX10_constableIs_39 : decode cX10_constableIs 39 = .ok (.iaload, 1) := by decide +kernel
theorem dX10_constableIs_40 : decode cX10_constableIs 40 = .ok (.goto 18, 3) := by decide +kernel
theorem dX10_constableIs_43 : decode cX10_constableIs 43 = .ok (.iload_n 2, 1) := by decide +kernel
theorem dX10_constableIs_44 : decode cX10_constableIs 44 = .ok (.iconst 2, 1) := by decide +kernel
theorem dX10_constableIs_45 : decode cX10_constableIs 45 = .ok (.if_icmp .ne 12, 3) := by decide +kernel
theorem dX10_constableIs_48 : decode cX10_constableIs 48 = .ok (.aload_n 0, 1) := by decide +kernel
theorem dX10_constableIs_49 : decode cX10_constableIs 49 = .ok (.getfield 22, 3) := by decide +kernel
theorem dX10_constableIs_52 : decode cX10_constableIs 52 = .ok (.iload_n 1, 1) := by decide +kernel
theorem dX10_constableIs_53 : decode cX10_constableIs 53 = .ok (.iaload, 1) := by decide +kernel
theorem dX10_constableIs_54 : decode cX10_constableIs 54 = .ok (.goto 4, 3) := by decide +kernel
theorem dX10_constableIs_57 : decode cX10_constableIs 57 = .ok (.iconst (-1), 1) := by decide +kernel
theorem dX10_constableIs_58 : decode cX10_constableIs 58 = .ok (.ireturn, 1) := by decide +kernel
theorem dX10_alone_0 : decode cX10_alone 0 = .ok (.aload_n 0, 1) := by decide +kernel
theorem dX10_alone_1 : decode cX10_alone 1 = .ok (.iload_n 1, 1) := by decide +kernel
theorem dX10_alone_2 : decode cX10_alone 2 = .ok (.invokevirtual 128, 3) := by decide +kernel
theorem dX10_alone_5 : decode cX10_alone 5 = .ok (.ifCond .eq 14, 3) := by decide +kernel
theorem dX10_alone_8 : decode cX10_alone 8 = .ok (.iload_n 2, 1) := by decide +kernel
theorem dX10_alone_9 : decode cX10_alone 9 = .ok (.iconst 1, 1) := by decide +kernel
theorem dX10_alone_10 : decode cX10_alone 10 = .ok (.sipush 240, 3) := by decide +kernel
theorem dX10_alone_13 : decode cX10_alone 13 = .ok (.invokestatic 112, 3) := by decide +kernel
theorem dX10_alone_16 : decode cX10_alone 16 = .ok (.ifCond .ne 5, 3) := by decide +kernel
theorem dX10_alone_19 : decode cX10_alone 19 = .ok (.iconst (-1), 1) := by decide +kernel
theorem dX10_alone_20 : decode cX10_alone 20 = .ok (.ireturn, 1) := by decide +kernel
theorem dX10_alone_21 : decode cX10_alone 21 = .ok (.aload_n 0, 1) := by decide +kernel
theorem dX10_alone_22 : decode cX10_alone 22 = .ok (.getfield 7, 3) := by decide +kernel
theorem dX10_alone_25 : decode cX10_alone 25 = .ok (.aload_n 0, 1) := by decide +kernel
theorem dX10_alone_26 : decode cX10_alone 26 = .ok (.getfield 13, 3) := by decide +kernel
theorem dX10_alone_29 : decode cX10_alone 29 = .ok (.invokestatic 290, 3) := by decide +kernel
theorem dX10_alone_32 : decode cX10_alone 32 = .ok (.iconst 0, 1) := by decide +kernel
theorem dX10_alone_33 : decode cX10_alone 33 = .ok (.istore_n 3, 1) := by decide +kernel
theorem dX10_alone_34 : decode cX10_alone 34 = .ok (.iconst 0, 1) := by decide +kernel
theorem dX10_alone_35 : decode cX10_alone 35 = .ok (.istore 4, 2) := by decide +kernel
theorem dX10_alone_37 : decode cX10_alone 37 = .ok (.iconst 0, 1) := by decide +kernel
theorem dX10_alone_38 : decode cX10_alone 38 = .ok (.istore 5, 2) := by decide +kernel
theorem dX10_alone_40 : decode cX10_alone 40 = .ok (.iload 5, 2) := by decide +kernel
theorem dX10_alone_42 : decode cX10_alone 42 = .ok (.iload_n 2, 1) := by decide +kernel
theorem dX10_alone_43 : decode cX10_alone 43 = .ok (.if_icmp .ge 50, 3) := by decide +kernel
theorem dX10_alone_46 : decode cX10_alone 46 = .ok (.aload_n 0, 1) := by decide +kernel
theorem dX10_alone_47 : decode cX10_alone 47 = .ok (.getfield 7, 3) := by decide +kernel
theorem dX10_alone_50 : decode cX10_alone 50 = .ok (.bipush 74, 2) := by decide +kernel
theorem dX10_alone_52 : decode cX10_alone 52 = .ok (.iaload, 1) := by decide +kernel
theorem dX10_alone_53 : decode cX10_alone 53 = .ok (.sipush 9999, 3) := by decide +kernel
theorem dX10_alone_56 : decode cX10_alone 56 = .ok (.if_icmp .ge 37, 3) := by decide +kernel
theorem dX10_alone_59 : decode cX10_alone 59 = .ok (.aload_n 0, 1) := by decide +kernel
theorem dX10_alone_60 : decode cX10_alone 60 = .ok (.invokevirtual 323, 3) := by decide +kernel
theorem dX10_alone_63 : decode cX10_alone 63 = .ok (.aload_n 0, 1) := by decide +kernel
theorem dX10_alone_64 : decode cX10_alone 64 = .ok (.iload_n 1, 1) := by decide +kernel
theorem dX10_alone_65 : decode cX10_alone 65 = .ok (.invokevirtual 241, 3) := by decide +kernel
theorem dX10_alone_68 : decode cX10_alone 68 = .ok (.ifCond .eq 7, 3) := by decide +kernel
theorem dX10_alone_71 : decode cX10_alone 71 = .ok (.iconst 0, 1) := by decide +kernel
theorem dX10_alone_72 : decode cX10_alone 72 = .ok (.goto 6, 3) := by decide +kernel
theorem dX10_alone_75 : decode cX10_alone 75 = .ok (.iload_n 3, 1) := by decide +kernel
theorem dX10_alone_76 : decode cX10_alone 76 = .ok (.iconst 1, 1) := by decide +kernel
theorem dX10_alone_77 : decode cX10_alone 77 = .ok (.iadd, 1) := by decide +kernel
theorem dX10_alone_78 : decode cX10_alone 78 = .ok (.istore_n 3, 1) := by decide +kernel
theorem dX10_alone_79 : decode cX10_alone 79 = .ok (.iload 4, 2) := by decide +kernel
theorem dX10_alone_81 : decode cX10_alone 81 = .ok (.iload_n 3, 1) := by decide +kernel
theorem dX10_alone_82 : decode cX10_alone 82 = .ok (.invokestatic 287, 3) := by decide +kernel
theorem dX10_alone_85 : decode cX10_alone 85 = .ok (.istore 4, 2) := by decide +kernel
theorem dX10_alone_87 : decode cX10_alone 87 = .ok (.iinc 5 1, 3) := by decide +kernel
theorem dX10_alone_90 : decode cX10_alone 90 = .ok (.goto (-50), 3) := by decide +kernel
theorem dX10_alone_93 : decode cX10_alone 93 = .ok (.aload_n 0, 1) := by decide +kernel
theorem dX10_alone_94 : decode cX10_alone 94 = .ok (.getfield 13, 3) := by decide +kernel
theorem dX10_alone_97 : decode cX10_alone 97 = .ok (.aload_n 0, 1) := by decide +kernel
theorem dX10_alone_98 : decode cX10_alone 98 = .ok (.getfield 7, 3) := by decide +kernel
theorem dX10_alone_101 : decode cX10_alone 101 = .ok (.invokestatic 290, 3) := by decide +kernel
theorem dX10_alone_104 : decode cX10_alone 104 = .ok (.iload 4, 2) := by decide +kernel
theorem dX10_alone_106 : decode cX10_alone 106 = .ok (.ireturn, 1) := by decide +kernel
theorem dX10_together_0 : decode cX10_together 0 = .ok (.aload_n 0, 1) := by decide +kernel
theorem dX10_together_1 : decode cX10_together 1 = .ok (.iload_n 1, 1) := by decide +kernel
theorem dX10_together_2 : decode cX10_together 2 = .ok (.invokevirtual 124, 3) := by decide +kernel
theorem dX10_together_5 : decode cX10_together 5 = .ok (.ifCond .eq 27, 3) := by decide +kernel
theorem dX10_together_8 : decode cX10_together 8 = .ok (.aload_n 0, 1) := by decide +kernel
theorem dX10_together_9 : decode cX10_together 9 = .ok (.iload_n 2, 1) := by decide +kernel
theorem dX10_together_10 : decode cX10_together 10 = .ok (.invokevirtual 124, 3) := by decide +kernel
theorem dX10_together_13 : decode cX10_together 13 = .ok (.ifCond .eq 19, 3) := by decide +kernel
theorem dX10_together_16 : decode cX10_together 16 = .ok (.iload_n 1, 1) := by decide +kernel
theorem dX10_together_17 : decode cX10_together 17 = .ok (.iload_n 2, 1) := by decide +kernel
theorem dX10_together_18 : decode cX10_together 18 = .ok (.if_icmp .eq 14, 3) := by decide +kernel
theorem dX10_together_21 : decode cX10_together 21 = .ok (.iload_n 3, 1) := by decide +kernel
theorem dX10_together_22 : decode cX10_together 22 = .ok (.iconst 1, 1) := by decide +kernel
theorem dX10_together_23 : decode cX10_together 23 = .ok (.sipush 240, 3) := by decide +kernel
theorem dX10_together_26 : decode cX10_together 26 = .ok (.invokestatic 112, 3) := by decide +kernel
theorem dX10_together_29 : decode cX10_together 29 = .ok (.ifCond .ne 5, 3) := by decide +kernel
theorem dX10_together_32 : decode cX10_together 32 = .ok (.iconst (-1), 1) := by decide +kernel
theorem dX10_together_33 : decode cX10_together 33 = .ok (.ireturn, 1) := by decide +kernel
theorem dX10_together_34 : decode cX10_together 34 = .ok (.aload_n 0, 1) := by decide +kernel
theorem dX10_together_35 : decode cX10_together 35 = .ok (.getfield 7, 3) := by decide +kernel
theorem dX10_together_38 : decode cX10_together 38 = .ok (.aload_n 0, 1) := by decide +kernel
theorem dX10_together_39 : decode cX10_together 39 = .ok (.getfield 13, 3) := by decide +kernel
theorem dX10_together_42 : decode cX10_together 42 = .ok (.invokestatic 290, 3) := by decide +kernel
theorem dX10_together_45 : decode cX10_together 45 = .ok (.iconst 0, 1) := by decide +kernel
theorem dX10_together_46 : decode cX10_together 46 = .ok (.istore 4, 2) := by decide +kernel
theorem dX10_together_48 : decode cX10_together 48 = .ok (.aload_n 0, 1) := by decide +kernel
theorem dX10_together_49 : decode cX10_together 49 = .ok (.getfield 7, 3) := by decide +kernel
theorem dX10_together_52 : decode cX10_together 52 = .ok (.bipush 56, 2) := by decide +kernel
theorem dX10_together_54 : decode cX10_together 54 = .ok (.iload_n 1, 1) := by decide +kernel
theorem dX10_together_55 : decode cX10_together 55 = .ok (.iadd, 1) := by decide +kernel
theorem dX10_together_56 : decode cX10_together 56 = .ok (.iaload, 1) := by decide +kernel
theorem dX10_together_57 : decode cX10_together 57 = .ok (.aload_n 0, 1) := by decide +kernel
theorem dX10_together_58 : decode cX10_together 58 = .ok (.getfield 7, 3) := by decide +kernel
theorem dX10_together_61 : decode cX10_together 61 = .ok (.bipush 56, 2) := by decide +kernel
theorem dX10_together_63 : decode cX10_together 63 = .ok (.iload_n 2, 1) := by decide +kernel
theorem dX10_together_64 : decode cX10_together 64 = .ok (.iadd, 1) := by decide +kernel
theorem dX10_together_65 : decode cX10_together 65 = .ok (.iaload, 1) := by decide +kernel
theorem dX10_together_66 : decode cX10_together 66 = .ok (.if_icmp .eq 35, 3) := by decide +kernel
theorem dX10_together_69 : decode cX10_together 69 = .ok (.iload 4, 2) := by decide +kernel
theorem dX10_together_71 : decode cX10_together 71 = .ok (.iload_n 3, 1) := by decide +kernel
theorem dX10_together_72 : decode cX10_together 72 = .ok (.if_icmp .ge 29, 3) := by decide +kernel
theorem dX10_together_75 : decode cX10_together 75 = .ok (.aload_n 0, 1) := by decide +kernel
theorem dX10_together_76 : decode cX10_together 76 = .ok (.getfield 7, 3) := by decide +kernel
theorem dX10_together_79 : decode cX10_together 79 = .ok (.bipush 74, 2) := by decide +kernel
theorem dX10_together_81 : decode cX10_together 81 = .ok (.iaload, 1) := by decide +kernel
theorem dX10_together_82 : decode cX10_together 82 = .ok (.sipush 9999, 3) := by decide +kernel
theorem dX10_together_85 : decode cX10_together 85 = .ok (.if_icmp .ge 16, 3) := by decide +kernel
theorem dX10_together_88 : decode cX10_together 88 = .ok (.aload_n 0, 1) := by decide +kernel
theorem dX10_together_89 : decode cX10_together 89 = .ok (.invokevirtual 323, 3) := by decide +kernel
theorem dX10_together_92 : decode cX10_together 92 = .ok (.iload 4, 2) := by decide +kernel
theorem dX10_together_94 : decode cX10_together 94 = .ok (.iconst 1, 1) := by decide +kernel
theorem dX10_together_95 : decode cX10_together 95 = .ok (.iadd, 1) := by decide +kernel
theorem dX10_together_96 : decode cX10_together 96 = .ok (.istore 4, 2) := by decide +kernel
theorem dX10_together_98 : decode cX10_together 98 = .ok (.goto (-50), 3) := by decide +kernel
theorem dX10_together_101 : decode cX10_together 101 = .ok (.aload_n 0, 1) := by decide +kernel
theorem dX10_together_102 : decode cX10_together 102 = .ok (.getfield 7, 3) := by decide +kernel
theorem dX10_together_105 : decode cX10_together 105 = .ok (.bipush 56, 2) := by decide +kernel
theorem dX10_together_107 : decode cX10_together 107 = .ok (.iload_n 1, 1) := by decide +kernel
theorem dX10_together_108 : decode cX10_together 108 = .ok (.iadd, 1) := by decide +kernel
theorem dX10_together_109 : decode cX10_together 109 = .ok (.iaload, 1) := by decide +kernel
theorem dX10_together_110 : decode cX10_together 110 = .ok (.aload_n 0, 1) := by decide +kernel
theorem dX10_together_111 : decode cX10_together 111 = .ok (.getfield 7, 3) := by decide +kernel
theorem dX10_together_114 : decode cX10_together 114 = .ok (.bipush 56, 2) := by decide +kernel
theorem dX10_together_116 : decode cX10_together 116 = .ok (.iload_n 2, 1) := by decide +kernel
theorem dX10_together_117 : decode cX10_together 117 = .ok (.iadd, 1) := by decide +kernel
theorem dX10_together_118 : decode cX10_together 118 = .ok (.iaload, 1) := by decide +kernel
theorem dX10_together_119 : decode cX10_together 119 = .ok (.if_icmp .ne 7, 3) := by decide +kernel
theorem dX10_together_122 : decode cX10_together 122 = .ok (.iconst 1, 1) := by decide +kernel
theorem dX10_together_123 : decode cX10_together 123 = .ok (.goto 4, 3) := by decide +kernel
theorem dX10_together_126 : decode cX10_together 126 = .ok (.iconst 0, 1) := by decide +kernel
theorem dX10_together_127 : decode cX10_together 127 = .ok (.istore 5, 2) := by decide +kernel
theorem dX10_together_129 : decode cX10_together 129 = .ok (.aload_n 0, 1) := by decide +kernel
theorem dX10_together_130 : decode cX10_together 130 = .ok (.getfield 13, 3) := by decide +kernel
theorem dX10_together_133 : decode cX10_together 133 = .ok (.aload_n 0, 1) := by decide +kernel
theorem dX10_together_134 : decode cX10_together 134 = .ok (.getfield 7, 3) := by decide +kernel
theorem dX10_together_137 : decode cX10_together 137 = .ok (.invokestatic 290, 3) := by decide +kernel
theorem dX10_together_140 : decode cX10_together 140 = .ok (.iload 5, 2) := by decide +kernel
theorem dX10_together_142 : decode cX10_together 142 = .ok (.ifCond .eq 8, 3) := by decide +kernel
theorem dX10_together_145 : decode cX10_together 145 = .ok (.iload 4, 2) := by decide +kernel
theorem dX10_together_147 : decode cX10_together 147 = .ok (.goto 5, 3) := by decide +kernel
theorem dX10_together_150 : decode cX10_together 150 = .ok (.bipush (-2), 2) := by decide +kernel
theorem dX10_together_152 : decode cX10_together 152 = .ok (.ireturn, 1) := by decide +kernel
theorem dX10_seen_0 : decode cX10_seen 0 = .ok (.iload_n 1, 1) := by decide +kernel
theorem dX10_seen_1 : decode cX10_seen 1 = .ok (.iconst 1, 1) := by decide +kernel
theorem dX10_seen_2 : decode cX10_seen 2 = .ok (.sipush 240, 3) := by decide +kernel
theorem dX10_seen_5 : decode cX10_seen 5 = .ok (.invokestatic 112, 3) := by decide +kernel
theorem dX10_seen_8 : decode cX10_seen 8 = .ok (.ifCond .ne 5, 3) := by decide +kernel
theorem dX10_seen_11 : decode cX10_seen 11 = .ok (.iconst (-1), 1) := by decide +kernel
theorem dX10_seen_12 : decode cX10_seen 12 = .ok (.ireturn, 1) := by decide +kernel
theorem dX10_seen_13 : decode cX10_seen 13 = .ok (.aload_n 0, 1) := by decide +kernel
theorem dX10_seen_14 : decode cX10_seen 14 = .ok (.getfield 7, 3) := by decide +kernel
theorem dX10_seen_17 : decode cX10_seen 17 = .ok (.aload_n 0, 1) := by decide +kernel
theorem dX10_seen_18 : decode cX10_seen 18 = .ok (.getfield 13, 3) := by decide +kernel
theorem dX10_seen_21 : decode cX10_seen 21 = .ok (.invokestatic 290, 3) := by decide +kernel
theorem dX10_seen_24 : decode cX10_seen 24 = .ok (.iconst 0, 1) := by decide +kernel
theorem dX10_seen_25 : decode cX10_seen 25 = .ok (.istore_n 2, 1) := by decide +kernel
theorem dX10_seen_26 : decode cX10_seen 26 = .ok (.iconst 0, 1) := by decide +kernel
theorem dX10_seen_27 : decode cX10_seen 27 = .ok (.istore_n 3, 1) := by decide +kernel
theorem dX10_seen_28 : decode cX10_seen 28 = .ok (.iload_n 3, 1) := by decide +kernel
theorem dX10_seen_29 : decode cX10_seen 29 = .ok (.iload_n 1, 1) := by decide +kernel
theorem dX10_seen_30 : decode cX10_seen 30 = .ok (.if_icmp .ge 33, 3) := by decide +kernel
theorem dX10_seen_33 : decode cX10_seen 33 = .ok (.aload_n 0, 1) := by decide +kernel
theorem dX10_seen_34 : decode cX10_seen 34 = .ok (.getfield 7, 3) := by decide +kernel
theorem dX10_seen_37 : decode cX10_seen 37 = .ok (.bipush 74, 2) := by decide +kernel
theorem dX10_seen_39 : decode cX10_seen 39 = .ok (.iaload, 1) := by decide +kernel
theorem dX10_seen_40 : decode cX10_seen 40 = .ok (.sipush 9999, 3) := by decide +kernel
theorem dX10_seen_43 : decode cX10_seen 43 = .ok (.if_icmp .ge 20, 3) := by decide +kernel
theorem dX10_seen_46 : decode cX10_seen 46 = .ok (.aload_n 0, 1) := by decide +kernel
theorem dX10_seen_47 : decode cX10_seen 47 = .ok (.invokevirtual 323, 3) := by decide +kernel
theorem dX10_seen_50 : decode cX10_seen 50 = .ok (.iload_n 2, 1) := by decide +kernel
theorem dX10_seen_51 : decode cX10_seen 51 = .ok (.aload_n 0, 1) := by decide +kernel
theorem dX10_seen_52 : decode cX10_seen 52 = .ok (.invokevirtual 332, 3) := by decide +kernel
theorem dX10_seen_55 : decode cX10_seen 55 = .ok (.ior, 1) := by decide +kernel
theorem dX10_seen_56 : decode cX10_seen 56 = .ok (.istore_n 2, 1) := by decide +kernel
theorem dX10_seen_57 : decode cX10_seen 57 = .ok (.iinc 3 1, 3) := by decide +kernel
theorem dX10_seen_60 : decode cX10_seen 60 = .ok (.goto (-32), 3) := by decide +kernel
theorem dX10_seen_63 : decode cX10_seen 63 = .ok (.aload_n 0, 1) := by decide +kernel
theorem dX10_seen_64 : decode cX10_seen 64 = .ok (.getfield 13, 3) := by decide +kernel
theorem dX10_seen_67 : decode cX10_seen 67 = .ok (.aload_n 0, 1) := by decide +kernel
theorem dX10_seen_68 : decode cX10_seen 68 = .ok (.getfield 7, 3) := by decide +kernel
theorem dX10_seen_71 : decode cX10_seen 71 = .ok (.invokestatic 290, 3) := by decide +kernel
theorem dX10_seen_74 : decode cX10_seen 74 = .ok (.iload_n 2, 1) := by decide +kernel
theorem dX10_seen_75 : decode cX10_seen 75 = .ok (.ireturn, 1) := by decide +kernel
theorem dX10_quiet_0 : decode cX10_quiet 0 = .ok (.iload_n 1, 1) := by decide +kernel
theorem dX10_quiet_1 : decode cX10_quiet 1 = .ok (.iconst 1, 1) := by decide +kernel
theorem dX10_quiet_2 : decode cX10_quiet 2 = .ok (.sipush 240, 3) := by decide +kernel
theorem dX10_quiet_5 : decode cX10_quiet 5 = .ok (.invokestatic 112, 3) := by decide +kernel
theorem dX10_quiet_8 : decode cX10_quiet 8 = .ok (.ifCond .ne 5, 3) := by decide +kernel
theorem dX10_quiet_11 : decode cX10_quiet 11 = .ok (.iconst (-1), 1) := by decide +kernel
theorem dX10_quiet_12 : decode cX10_quiet 12 = .ok (.ireturn, 1) := by decide +kernel
theorem dX10_quiet_13 : decode cX10_quiet 13 = .ok (.aload_n 0, 1) := by decide +kernel
theorem dX10_quiet_14 : decode cX10_quiet 14 = .ok (.getfield 7, 3) := by decide +kernel
theorem dX10_quiet_17 : decode cX10_quiet 17 = .ok (.aload_n 0, 1) := by decide +kernel
theorem dX10_quiet_18 : decode cX10_quiet 18 = .ok (.getfield 13, 3) := by decide +kernel
theorem dX10_quiet_21 : decode cX10_quiet 21 = .ok (.invokestatic 290, 3) := by decide +kernel
theorem dX10_quiet_24 : decode cX10_quiet 24 = .ok (.iconst 0, 1) := by decide +kernel
theorem dX10_quiet_25 : decode cX10_quiet 25 = .ok (.istore_n 2, 1) := by decide +kernel
theorem dX10_quiet_26 : decode cX10_quiet 26 = .ok (.iconst 0, 1) := by decide +kernel
theorem dX10_quiet_27 : decode cX10_quiet 27 = .ok (.istore_n 3, 1) := by decide +kernel
theorem dX10_quiet_28 : decode cX10_quiet 28 = .ok (.iconst 0, 1) := by decide +kernel
theorem dX10_quiet_29 : decode cX10_quiet 29 = .ok (.istore 4, 2) := by decide +kernel
theorem dX10_quiet_31 : decode cX10_quiet 31 = .ok (.iload 4, 2) := by decide +kernel
theorem dX10_quiet_33 : decode cX10_quiet 33 = .ok (.iload_n 1, 1) := by decide +kernel
theorem dX10_quiet_34 : decode cX10_quiet 34 = .ok (.if_icmp .ge 52, 3) := by decide +kernel
theorem dX10_quiet_37 : decode cX10_quiet 37 = .ok (.aload_n 0, 1) := by decide +kernel
theorem dX10_quiet_38 : decode cX10_quiet 38 = .ok (.getfield 7, 3) := by decide +kernel
theorem dX10_quiet_41 : decode cX10_quiet 41 = .ok (.bipush 74, 2) := by decide +kernel
theorem dX10_quiet_43 : decode cX10_quiet 43 = .ok (.iaload, 1) := by decide +kernel
theorem dX10_quiet_44 : decode cX10_quiet 44 = .ok (.sipush 9999, 3) := by decide +kernel
theorem dX10_quiet_47 : decode cX10_quiet 47 = .ok (.if_icmp .ge 39, 3) := by decide +kernel
theorem dX10_quiet_50 : decode cX10_quiet 50 = .ok (.aload_n 0, 1) := by decide +kernel
theorem dX10_quiet_51 : decode cX10_quiet 51 = .ok (.iconst 0, 1) := by decide +kernel
theorem dX10_quiet_52 : decode cX10_quiet 52 = .ok (.putfield 314, 3) := by decide +kernel
theorem dX10_quiet_55 : decode cX10_quiet 55 = .ok (.aload_n 0, 1) := by decide +kernel
theorem dX10_quiet_56 : decode cX10_quiet 56 = .ok (.invokevirtual 323, 3) := by decide +kernel
theorem dX10_quiet_59 : decode cX10_quiet 59 = .ok (.aload_n 0, 1) := by decide +kernel
theorem dX10_quiet_60 : decode cX10_quiet 60 = .ok (.getfield 314, 3) := by decide +kernel
theorem dX10_quiet_63 : decode cX10_quiet 63 = .ok (.ifCond .le 7, 3) := by decide +kernel
theorem dX10_quiet_66 : decode cX10_quiet 66 = .ok (.iconst 0, 1) := by decide +kernel
theorem dX10_quiet_67 : decode cX10_quiet 67 = .ok (.goto 6, 3) := by decide +kernel
theorem dX10_quiet_70 : decode cX10_quiet 70 = .ok (.iload_n 2, 1) := by decide +kernel
theorem dX10_quiet_71 : decode cX10_quiet 71 = .ok (.iconst 1, 1) := by decide +kernel
theorem dX10_quiet_72 : decode cX10_quiet 72 = .ok (.iadd, 1) := by decide +kernel
theorem dX10_quiet_73 : decode cX10_quiet 73 = .ok (.istore_n 2, 1) := by decide +kernel
theorem dX10_quiet_74 : decode cX10_quiet 74 = .ok (.iload_n 3, 1) := by decide +kernel
theorem dX10_quiet_75 : decode cX10_quiet 75 = .ok (.iload_n 2, 1) := by decide +kernel
theorem dX10_quiet_76 : decode cX10_quiet 76 = .ok (.invokestatic 287, 3) := by decide +kernel
theorem dX10_quiet_79 : decode cX10_quiet 79 = .ok (.istore_n 3, 1) := by decide +kernel
theorem dX10_quiet_80 : decode cX10_quiet 80 = .ok (.iinc 4 1, 3) := by decide +kernel
theorem dX10_quiet_83 : decode cX10_quiet 83 = .ok (.goto (-52), 3) := by decide +kernel
theorem dX10_quiet_86 : decode cX10_quiet 86 = .ok (.aload_n 0, 1) := by decide +kernel
theorem dX10_quiet_87 : decode cX10_quiet 87 = .ok (.getfield 13, 3) := by decide +kernel
theorem dX10_quiet_90 : decode cX10_quiet 90 = .ok (.aload_n 0, 1) := by decide +kernel
theorem dX10_quiet_91 : decode cX10_quiet 91 = .ok (.getfield 7, 3) := by decide +kernel
theorem dX10_quiet_94 : decode cX10_quiet 94 = .ok (.invokestatic 290, 3) := by decide +kernel
theorem dX10_quiet_97 : decode cX10_quiet 97 = .ok (.iload_n 3, 1) := by decide +kernel
theorem dX10_quiet_98 : decode cX10_quiet 98 = .ok (.ireturn, 1) := by decide +kernel
theorem dX10_worst_0 : decode cX10_worst 0 = .ok (.bipush (-2), 2) := by decide +kernel
theorem dX10_worst_2 : decode cX10_worst 2 = .ok (.istore_n 1, 1) := by decide +kernel
theorem dX10_worst_3 : decode cX10_worst 3 = .ok (.iconst (-1), 1) := by decide +kernel
theorem dX10_worst_4 : decode cX10_worst 4 = .ok (.istore_n 2, 1) := by decide +kernel
theorem dX10_worst_5 : decode cX10_worst 5 = .ok (.iconst 0, 1) := by decide +kernel
theorem dX10_worst_6 : decode cX10_worst 6 = .ok (.istore_n 3, 1) := by decide +kernel
theorem dX10_worst_7 : decode cX10_worst 7 = .ok (.iload_n 3, 1) := by decide +kernel
theorem dX10_worst_8 : decode cX10_worst 8 = .ok (.bipush 16, 2) := by decide +kernel
theorem dX10_worst_10 : decode cX10_worst 10 = .ok (.if_icmp .ge 63, 3) := by decide +kernel
theorem dX10_worst_13 : decode cX10_worst 13 = .ok (.aload_n 0, 1) := by decide +kernel
theorem dX10_worst_14 : decode cX10_worst 14 = .ok (.iload_n 3, 1) := by decide +kernel
theorem dX10_worst_15 : decode cX10_worst 15 = .ok (.invokevirtual 128, 3) := by decide +kernel
theorem dX10_worst_18 : decode cX10_worst 18 = .ok (.ifCond .eq 49, 3) := by decide +kernel
theorem dX10_worst_21 : decode cX10_worst 21 = .ok (.aload_n 0, 1) := by decide +kernel
theorem dX10_worst_22 : decode cX10_worst 22 = .ok (.getfield 7, 3) := by decide +kernel
theorem dX10_worst_25 : decode cX10_worst 25 = .ok (.iconst 0, 1) := by decide +kernel
theorem dX10_worst_26 : decode cX10_worst 26 = .ok (.iload_n 3, 1) := by decide +kernel
theorem dX10_worst_27 : decode cX10_worst 27 = .ok (.iadd, 1) := by decide +kernel
theorem dX10_worst_28 : decode cX10_worst 28 = .ok (.iaload, 1) := by decide +kernel
theorem dX10_worst_29 : decode cX10_worst 29 = .ok (.aload_n 0, 1) := by decide +kernel
theorem dX10_worst_30 : decode cX10_worst 30 = .ok (.getfield 7, 3) := by decide +kernel
theorem dX10_worst_33 : decode cX10_worst 33 = .ok (.bipush 16, 2) := by decide +kernel
theorem dX10_worst_35 : decode cX10_worst 35 = .ok (.iload_n 3, 1) := by decide +kernel
theorem dX10_worst_36 : decode cX10_worst 36 = .ok (.iadd, 1) := by decide +kernel
theorem dX10_worst_37 : decode cX10_worst 37 = .ok (.iaload, 1) := by decide +kernel
theorem dX10_worst_38 : decode cX10_worst 38 = .ok (.imul, 1) := by decide +kernel
theorem dX10_worst_39 : decode cX10_worst 39 = .ok (.iload_n 2, 1) := by decide +kernel
theorem dX10_worst_40 : decode cX10_worst 40 = .ok (.if_icmp .gt 6, 3) := by decide +kernel
theorem dX10_worst_43 : decode cX10_worst 43 = .ok (.goto 24, 3) := by decide +kernel
theorem dX10_worst_46 : decode cX10_worst 46 = .ok (.aload_n 0, 1) := by decide +kernel
theorem dX10_worst_47 : decode cX10_worst 47 = .ok (.getfield 7, 3) := by decide +kernel
theorem dX10_worst_50 : decode cX10_worst 50 = .ok (.iconst 0, 1) := by decide +kernel
theorem dX10_worst_51 : decode cX10_worst 51 = .ok (.iload_n 3, 1) := by decide +kernel
theorem dX10_worst_52 : decode cX10_worst 52 = .ok (.iadd, 1) := by decide +kernel
theorem dX10_worst_53 : decode cX10_worst 53 = .ok (.iaload, 1) := by decide +kernel
theorem dX10_worst_54 : decode cX10_worst 54 = .ok (.aload_n 0, 1) := by decide +kernel
theorem dX10_worst_55 : decode cX10_worst 55 = .ok (.getfield 7, 3) := by decide +kernel
theorem dX10_worst_58 : decode cX10_worst 58 = .ok (.bipush 16, 2) := by decide +kernel
theorem dX10_worst_60 : decode cX10_worst 60 = .ok (.iload_n 3, 1) := by decide +kernel
theorem dX10_worst_61 : decode cX10_worst 61 = .ok (.iadd, 1) := by decide +kernel
theorem dX10_worst_62 : decode cX10_worst 62 = .ok (.iaload, 1) := by decide +kernel
theorem dX10_worst_63 : decode cX10_worst 63 = .ok (.imul, 1) := by decide +kernel
theorem dX10_worst_64 : decode cX10_worst 64 = .ok (.istore_n 2, 1) := by decide +kernel
theorem dX10_worst_65 : decode cX10_worst 65 = .ok (.iload_n 3, 1) := by decide +kernel
theorem dX10_worst_66 : decode cX10_worst 66 = .ok (.istore_n 1, 1) := by decide +kernel
theorem dX10_worst_67 : decode cX10_worst 67 = .ok (.iinc 3 1, 3) := by decide +kernel
theorem dX10_worst_70 : decode cX10_worst 70 = .ok (.goto (-63), 3) := by decide +kernel
theorem dX10_worst_73 : decode cX10_worst 73 = .ok (.iload_n 1, 1) := by decide +kernel
theorem dX10_worst_74 : decode cX10_worst 74 = .ok (.ireturn, 1) := by decide +kernel
theorem dX10_watchedBy_0 : decode cX10_watchedBy 0 = .ok (.iload_n 1, 1) := by decide +kernel
theorem dX10_watchedBy_1 : decode cX10_watchedBy 1 = .ok (.istore_n 2, 1) := by decide +kernel
theorem dX10_watchedBy_2 : decode cX10_watchedBy 2 = .ok (.iconst 0, 1) := by decide +kernel
theorem dX10_watchedBy_3 : decode cX10_watchedBy 3 = .ok (.istore_n 3, 1) := by decide +kernel
theorem dX10_watchedBy_4 : decode cX10_watchedBy 4 = .ok (.iload_n 3, 1) := by decide +kernel
theorem dX10_watchedBy_5 : decode cX10_watchedBy 5 = .ok (.bipush 16, 2) := by decide +kernel
theorem dX10_watchedBy_7 : decode cX10_watchedBy 7 = .ok (.if_icmp .ge 26, 3) := by decide +kernel
theorem dX10_watchedBy_10 : decode cX10_watchedBy 10 = .ok (.iload_n 1, 1) := by decide +kernel
theorem dX10_watchedBy_11 : decode cX10_watchedBy 11 = .ok (.iload_n 3, 1) := by decide +kernel
theorem dX10_watchedBy_12 : decode cX10_watchedBy 12 = .ok (.invokestatic 120, 3) := by decide +kernel
theorem dX10_watchedBy_15 : decode cX10_watchedBy 15 = .ok (.ifCond .eq 12, 3) := by decide +kernel
theorem dX10_watchedBy_18 : decode cX10_watchedBy 18 = .ok (.iload_n 2, 1) := by decide +kernel
theorem dX10_watchedBy_19 : decode cX10_watchedBy 19 = .ok (.aload_n 0, 1) := by decide +kernel
theorem dX10_watchedBy_20 : decode cX10_watchedBy 20 = .ok (.getfield 19, 3) := by decide +kernel
theorem dX10_watchedBy_23 : decode cX10_watchedBy 23 = .ok (.iload_n 3, 1) := by decide +kernel
theorem dX10_watchedBy_24 : decode cX10_watchedBy 24 = .ok (.iaload, 1) := by decide +kernel
theorem dX10_watchedBy_25 : decode cX10_watchedBy 25 = .ok (.ior, 1) := by decide +kernel
theorem dX10_watchedBy_26 : decode cX10_watchedBy 26 = .ok (.istore_n 2, 1) := by decide +kernel
theorem dX10_watchedBy_27 : decode cX10_watchedBy 27 = .ok (.iinc 3 1, 3) := by decide +kernel
theorem dX10_watchedBy_30 : decode cX10_watchedBy 30 = .ok (.goto (-26), 3) := by decide +kernel
theorem dX10_watchedBy_33 : decode cX10_watchedBy 33 = .ok (.iload_n 2, 1) := by decide +kernel
theorem dX10_watchedBy_34 : decode cX10_watchedBy 34 = .ok (.ireturn, 1) := by decide +kernel
theorem dX10_posts_0 : decode cX10_posts 0 = .ok (.iload_n 1, 1) := by decide +kernel
theorem dX10_posts_1 : decode cX10_posts 1 = .ok (.iconst 0, 1) := by decide +kernel
theorem dX10_posts_2 : decode cX10_posts 2 = .ok (.iconst 1, 1) := by decide +kernel
theorem dX10_posts_3 : decode cX10_posts 3 = .ok (.invokestatic 112, 3) := by decide +kernel
theorem dX10_posts_6 : decode cX10_posts 6 = .ok (.ifCond .ne 5, 3) := by decide +kernel
theorem dX10_posts_9 : decode cX10_posts 9 = .ok (.iconst (-1), 1) := by decide +kernel
theorem dX10_posts_10 : decode cX10_posts 10 = .ok (.ireturn, 1) := by decide +kernel
theorem dX10_posts_11 : decode cX10_posts 11 = .ok (.aload_n 0, 1) := by decide +kernel
theorem dX10_posts_12 : decode cX10_posts 12 = .ok (.getfield 116, 3) := by decide +kernel
theorem dX10_posts_15 : decode cX10_posts 15 = .ok (.istore_n 2, 1) := by decide +kernel
theorem dX10_posts_16 : decode cX10_posts 16 = .ok (.iconst 0, 1) := by decide +kernel
theorem dX10_posts_17 : decode cX10_posts 17 = .ok (.istore_n 3, 1) := by decide +kernel
theorem dX10_posts_18 : decode cX10_posts 18 = .ok (.iload_n 3, 1) := by decide +kernel
theorem dX10_posts_19 : decode cX10_posts 19 = .ok (.aload_n 0, 1) := by decide +kernel
theorem dX10_posts_20 : decode cX10_posts 20 = .ok (.getfield 116, 3) := by decide +kernel
theorem dX10_posts_23 : decode cX10_posts 23 = .ok (.if_icmp .gt 67, 3) := by decide +kernel
theorem dX10_posts_26 : decode cX10_posts 26 = .ok (.iload_n 3, 1) := by decide +kernel
theorem dX10_posts_27 : decode cX10_posts 27 = .ok (.aload_n 0, 1) := by decide +kernel
theorem dX10_posts_28 : decode cX10_posts 28 = .ok (.getfield 116, 3) := by decide +kernel
theorem dX10_posts_31 : decode cX10_posts 31 = .ok (.iconst (-1), 1) := by decide +kernel
theorem dX10_posts_32 : decode cX10_posts 32 = .ok (.ixor, 1) := by decide +kernel
theorem dX10_posts_33 : decode cX10_posts 33 = .ok (.iand, 1) := by decide +kernel
theorem dX10_posts_34 : decode cX10_posts 34 = .ok (.ifCond .ne 50, 3) := by decide +kernel
theorem dX10_posts_37 : decode cX10_posts 37 = .ok (.iload_n 3, 1) := by decide +kernel
theorem dX10_posts_38 : decode cX10_posts 38 = .ok (.invokestatic 244, 3) := by decide +kernel
theorem dX10_posts_41 : decode cX10_posts 41 = .ok (.iload_n 2, 1) := by decide +kernel
theorem dX10_posts_42 : decode cX10_posts 42 = .ok (.invokestatic 244, 3) := by decide +kernel
theorem dX10_posts_45 : decode cX10_posts 45 = .ok (.if_icmp .gt 39, 3) := by decide +kernel
theorem dX10_posts_48 : decode cX10_posts 48 = .ok (.iload_n 3, 1) := by decide +kernel
theorem dX10_posts_49 : decode cX10_posts 49 = .ok (.invokestatic 244, 3) := by decide +kernel
theorem dX10_posts_52 : decode cX10_posts 52 = .ok (.iload_n 2, 1) := by decide +kernel
theorem dX10_posts_53 : decode cX10_posts 53 = .ok (.invokestatic 244, 3) := by decide +kernel
theorem dX10_posts_56 : decode cX10_posts 56 = .ok (.if_icmp .ne 11, 3) := by decide +kernel
theorem dX10_posts_59 : decode cX10_posts 59 = .ok (.iload_n 3, 1) := by decide +kernel
theorem dX10_posts_60 : decode cX10_posts 60 = .ok (.iload_n 2, 1) := by decide +kernel
theorem dX10_posts_61 : decode cX10_posts 61 = .ok (.if_icmp .le 6, 3) := by decide +kernel
theorem dX10_posts_64 : decode cX10_posts 64 = .ok (.goto 20, 3) := by decide +kernel
theorem dX10_posts_67 : decode cX10_posts 67 = .ok (.aload_n 0, 1) := by decide +kernel
theorem dX10_posts_68 : decode cX10_posts 68 = .ok (.getfield 116, 3) := by decide +kernel
theorem dX10_posts_71 : decode cX10_posts 71 = .ok (.aload_n 0, 1) := by decide +kernel
theorem dX10_posts_72 : decode cX10_posts 72 = .ok (.iload_n 3, 1) := by decide +kernel
theorem dX10_posts_73 : decode cX10_posts 73 = .ok (.invokevirtual 335, 3) := by decide +kernel
theorem dX10_posts_76 : decode cX10_posts 76 = .ok (.iconst (-1), 1) := by decide +kernel
theorem dX10_posts_77 : decode cX10_posts 77 = .ok (.ixor, 1) := by decide +kernel
theorem dX10_posts_78 : decode cX10_posts 78 = .ok (.iand, 1) := by decide +kernel
theorem dX10_posts_79 : decode cX10_posts 79 = .ok (.ifCond .ne 5, 3) := by decide +kernel
theorem dX10_posts_82 : decode cX10_posts 82 = .ok (.iload_n 3, 1) := by decide +kernel
theorem dX10_posts_83 : decode cX10_posts 83 = .ok (.istore_n 2, 1) := by decide +kernel
theorem dX10_posts_84 : decode cX10_posts 84 = .ok (.iinc 3 1, 3) := by decide +kernel
theorem dX10_posts_87 : decode cX10_posts 87 = .ok (.goto (-69), 3) := by decide +kernel
theorem dX10_posts_90 : decode cX10_posts 90 = .ok (.iload_n 1, 1) := by decide +kernel
theorem dX10_posts_91 : decode cX10_posts 91 = .ok (.ifCond .ne 10, 3) := by decide +kernel
theorem dX10_posts_94 : decode cX10_posts 94 = .ok (.iload_n 2, 1) := by decide +kernel
theorem dX10_posts_95 : decode cX10_posts 95 = .ok (.invokestatic 244, 3) := by decide +kernel
theorem dX10_posts_98 : decode cX10_posts 98 = .ok (.goto 4, 3) := by decide +kernel
theorem dX10_posts_101 : decode cX10_posts 101 = .ok (.iload_n 2, 1) := by decide +kernel
theorem dX10_posts_102 : decode cX10_posts 102 = .ok (.ireturn, 1) := by decide +kernel
theorem dX10_temptationOf_0 : decode cX10_temptationOf 0 = .ok (.iconst 0, 1) := by decide +kernel
theorem dX10_temptationOf_1 : decode cX10_temptationOf 1 = .ok (.istore_n 2, 1) := by decide +kernel
theorem dX10_temptationOf_2 : decode cX10_temptationOf 2 = .ok (.iconst 0, 1) := by decide +kernel
theorem dX10_temptationOf_3 : decode cX10_temptationOf 3 = .ok (.istore_n 3, 1) := by decide +kernel
theorem dX10_temptationOf_4 : decode cX10_temptationOf 4 = .ok (.iload_n 3, 1) := by decide +kernel
theorem dX10_temptationOf_5 : decode cX10_temptationOf 5 = .ok (.bipush 16, 2) := by decide +kernel
theorem dX10_temptationOf_7 : decode cX10_temptationOf 7 = .ok (.if_icmp .ge 28, 3) := by decide +kernel
theorem dX10_temptationOf_10 : decode cX10_temptationOf 10 = .ok (.iload_n 1, 1) := by decide +kernel
theorem dX10_temptationOf_11 : decode cX10_temptationOf 11 = .ok (.iload_n 3, 1) := by decide +kernel
theorem dX10_temptationOf_12 : decode cX10_temptationOf 12 = .ok (.invokestatic 120, 3) := by decide +kernel
theorem dX10_temptationOf_15 : decode cX10_temptationOf 15 = .ok (.ifCond .eq 14, 3) := by decide +kernel
theorem dX10_temptationOf_18 : decode cX10_temptationOf 18 = .ok (.iload_n 2, 1) := by decide +kernel
theorem dX10_temptationOf_19 : decode cX10_temptationOf 19 = .ok (.aload_n 0, 1) := by decide +kernel
theorem dX10_temptationOf_20 : decode cX10_temptationOf 20 = .ok (.getfield 7, 3) := by decide +kernel
theorem dX10_temptationOf_23 : decode cX10_temptationOf 23 = .ok (.iconst 0, 1) := by decide +kernel
theorem dX10_temptationOf_24 : decode cX10_temptationOf 24 = .ok (.iload_n 3, 1) := by decide +kernel
theorem dX10_temptationOf_25 : decode cX10_temptationOf 25 = .ok (.iadd, 1) := by decide +kernel
theorem dX10_temptationOf_26 : decode cX10_temptationOf 26 = .ok (.iaload, 1) := by decide +kernel
theorem dX10_temptationOf_27 : decode cX10_temptationOf 27 = .ok (.iadd, 1) := by decide +kernel
theorem dX10_temptationOf_28 : decode cX10_temptationOf 28 = .ok (.istore_n 2, 1) := by decide +kernel
theorem dX10_temptationOf_29 : decode cX10_temptationOf 29 = .ok (.iinc 3 1, 3) := by decide +kernel
theorem dX10_temptationOf_32 : decode cX10_temptationOf 32 = .ok (.goto (-28), 3) := by decide +kernel
theorem dX10_temptationOf_35 : decode cX10_temptationOf 35 = .ok (.iload_n 2, 1) := by decide +kernel
theorem dX10_temptationOf_36 : decode cX10_temptationOf 36 = .ok (.ireturn, 1) := by decide +kernel
theorem dX10_round_0 : decode cX10_round 0 = .ok (.aload_n 0, 1) := by decide +kernel
theorem dX10_round_1 : decode cX10_round 1 = .ok (.iload_n 1, 1) := by decide +kernel
theorem dX10_round_2 : decode cX10_round 2 = .ok (.invokevirtual 128, 3) := by decide +kernel
theorem dX10_round_5 : decode cX10_round 5 = .ok (.ifCond .eq 22, 3) := by decide +kernel
theorem dX10_round_8 : decode cX10_round 8 = .ok (.iload_n 2, 1) := by decide +kernel
theorem dX10_round_9 : decode cX10_round 9 = .ok (.iconst 1, 1) := by decide +kernel
theorem dX10_round_10 : decode cX10_round 10 = .ok (.bipush 8, 2) := by decide +kernel
theorem dX10_round_12 : decode cX10_round 12 = .ok (.invokestatic 112, 3) := by decide +kernel
theorem dX10_round_15 : decode cX10_round 15 = .ok (.ifCond .eq 12, 3) := by decide +kernel
theorem dX10_round_18 : decode cX10_round 18 = .ok (.iload_n 3, 1) := by decide +kernel
theorem dX10_round_19 : decode cX10_round 19 = .ok (.iconst 0, 1) := by decide +kernel
theorem dX10_round_20 : decode cX10_round 20 = .ok (.iconst 1, 1) := by decide +kernel
theorem dX10_round_21 : decode cX10_round 21 = .ok (.invokestatic 112, 3) := by decide +kernel
theorem dX10_round_24 : decode cX10_round 24 = .ok (.ifCond .ne 5, 3) := by decide +kernel
theorem dX10_round_27 : decode cX10_round 27 = .ok (.iconst (-1), 1) := by decide +kernel
theorem dX10_round_28 : decode cX10_round 28 = .ok (.ireturn, 1) := by decide +kernel
theorem dX10_round_29 : decode cX10_round 29 = .ok (.bipush 16, 2) := by decide +kernel
theorem dX10_round_31 : decode cX10_round 31 = .ok (.iconst 1, 1) := by decide +kernel
theorem dX10_round_32 : decode cX10_round 32 = .ok (.iload_n 1, 1) := by decide +kernel
theorem dX10_round_33 : decode cX10_round 33 = .ok (.ishl, 1) := by decide +kernel
theorem dX10_round_34 : decode cX10_round 34 = .ok (.imul, 1) := by decide +kernel
theorem dX10_round_35 : decode cX10_round 35 = .ok (.iload_n 1, 1) := by decide +kernel
theorem dX10_round_36 : decode cX10_round 36 = .ok (.iadd, 1) := by decide +kernel
theorem dX10_round_37 : decode cX10_round 37 = .ok (.istore 4, 2) := by decide +kernel
theorem dX10_round_39 : decode cX10_round 39 = .ok (.aload_n 0, 1) := by decide +kernel
theorem dX10_round_40 : decode cX10_round 40 = .ok (.getfield 91, 3) := by decide +kernel
theorem dX10_round_43 : decode cX10_round 43 = .ok (.iconst 0, 1) := by decide +kernel
theorem dX10_round_44 : decode cX10_round 44 = .ok (.iload 4, 2) := by decide +kernel
theorem dX10_round_46 : decode cX10_round 46 = .ok (.iastore, 1) := by decide +kernel
theorem dX10_round_47 : decode cX10_round 47 = .ok (.aload_n 0, 1) := by decide +kernel
theorem dX10_round_48 : decode cX10_round 48 = .ok (.getfield 87, 3) := by decide +kernel
theorem dX10_round_51 : decode cX10_round 51 = .ok (.iload 4, 2) := by decide +kernel
theorem dX10_round_53 : decode cX10_round 53 = .ok (.iconst 1, 1) := by decide +kernel
theorem dX10_round_54 : decode cX10_round 54 = .ok (.bastore, 1) := by decide +kernel
theorem dX10_round_55 : decode cX10_round 55 = .ok (.iconst 1, 1) := by decide +kernel
theorem dX10_round_56 : decode cX10_round 56 = .ok (.istore 5, 2) := by decide +kernel
theorem dX10_round_58 : decode cX10_round 58 = .ok (.iconst 1, 1) := by decide +kernel
theorem dX10_round_59 : decode cX10_round 59 = .ok (.iload_n 1, 1) := by decide +kernel
theorem dX10_round_60 : decode cX10_round 60 = .ok (.ishl, 1) := by decide +kernel
theorem dX10_round_61 : decode cX10_round 61 = .ok (.istore 6, 2) := by decide +kernel
theorem dX10_round_63 : decode cX10_round 63 = .ok (.iconst 0, 1) := by decide +kernel
theorem dX10_round_64 : decode cX10_round 64 = .ok (.istore 7, 2) := by decide +kernel
theorem dX10_round_66 : decode cX10_round 66 = .ok (.iload 7, 2) := by decide +kernel
theorem dX10_round_68 : decode cX10_round 68 = .ok (.iload 5, 2) := by decide +kernel
theorem dX10_round_70 : decode cX10_round 70 = .ok (.if_icmp .ge 169, 3) := by decide +kernel
theorem dX10_round_73 : decode cX10_round 73 = .ok (.aload_n 0, 1) := by decide +kernel
theorem dX10_round_74 : decode cX10_round 74 = .ok (.getfield 91, 3) := by decide +kernel
theorem dX10_round_77 : decode cX10_round 77 = .ok (.iload 7, 2) := by decide +kernel
theorem dX10_round_79 : decode cX10_round 79 = .ok (.iaload, 1) := by decide +kernel
theorem dX10_round_80 : decode cX10_round 80 = .ok (.bipush 16, 2) := by decide +kernel
theorem dX10_round_82 : decode cX10_round 82 = .ok (.idiv, 1) := by decide +kernel
theorem dX10_round_83 : decode cX10_round 83 = .ok (.istore 8, 2) := by decide +kernel
theorem dX10_round_85 : decode cX10_round 85 = .ok (.aload_n 0, 1) := by decide +kernel
theorem dX10_round_86 : decode cX10_round 86 = .ok (.getfield 91, 3) := by decide +kernel
theorem dX10_round_89 : decode cX10_round 89 = .ok (.iload 7, 2) := by decide +kernel
theorem dX10_round_91 : decode cX10_round 91 = .ok (.iaload, 1) := by decide +kernel
theorem dX10_round_92 : decode cX10_round 92 = .ok (.bipush 16, 2) := by decide +kernel
theorem dX10_round_94 : decode cX10_round 94 = .ok (.irem, 1) := by decide +kernel
theorem dX10_round_95 : decode cX10_round 95 = .ok (.istore 9, 2) := by decide +kernel
theorem dX10_round_97 : decode cX10_round 97 = .ok (.iload 9, 2) := by decide +kernel
theorem dX10_round_99 : decode cX10_round 99 = .ok (.iload_n 1, 1) := by decide +kernel
theorem dX10_round_100 : decode cX10_round 100 = .ok (.if_icmp .ne 18, 3) := by decide +kernel
theorem dX10_round_103 : decode cX10_round 103 = .ok (.aload_n 0, 1) := by decide +kernel
theorem dX10_round_104 : decode cX10_round 104 = .ok (.iload 8, 2) := by decide +kernel
theorem dX10_round_106 : decode cX10_round 106 = .ok (.iload 6, 2) := by decide +kernel
theorem dX10_round_108 : decode cX10_round 108 = .ok (.invokevirtual 338, 3) := by decide +kernel
theorem dX10_round_111 : decode cX10_round 111 = .ok (.ifCond .eq 7, 3) := by decide +kernel
theorem dX10_round_114 : decode cX10_round 114 = .ok (.iload 8, 2) := by decide +kernel
theorem dX10_round_116 : decode cX10_round 116 = .ok (.istore 6, 2) := by decide +kernel
theorem dX10_round_118 : decode cX10_round 118 = .ok (.aload_n 0, 1) := by decide +kernel
theorem dX10_round_119 : decode cX10_round 119 = .ok (.getfield 87, 3) := by decide +kernel
theorem dX10_round_122 : decode cX10_round 122 = .ok (.aload_n 0, 1) := by decide +kernel
theorem dX10_round_123 : decode cX10_round 123 = .ok (.getfield 91, 3) := by decide +kernel
theorem dX10_round_126 : decode cX10_round 126 = .ok (.iload 7, 2) := by decide +kernel
theorem dX10_round_128 : decode cX10_round 128 = .ok (.iaload, 1) := by decide +kernel
theorem dX10_round_129 : decode cX10_round 129 = .ok (.baload, 1) := by decide +kernel
theorem dX10_round_130 : decode cX10_round 130 = .ok (.iload_n 2, 1) := by decide +kernel
theorem dX10_round_131 : decode cX10_round 131 = .ok (.if_icmp .le 6, 3) := by decide +kernel
theorem dX10_round_134 : decode cX10_round 134 = .ok (.goto 99, 3) := by decide +kernel
theorem dX10_round_137 : decode cX10_round 137 = .ok (.iconst 0, 1) := by decide +kernel
theorem dX10_round_138 : decode cX10_round 138 = .ok (.istore 10, 2) := by decide +kernel
theorem dX10_round_140 : decode cX10_round 140 = .ok (.iload 10, 2) := by decide +kernel
theorem dX10_round_142 : decode cX10_round 142 = .ok (.bipush 16, 2) := by decide +kernel
theorem dX10_round_144 : decode cX10_round 144 = .ok (.if_icmp .ge 89, 3) := by decide +kernel
theorem dX10_round_147 : decode cX10_round 147 = .ok (.bipush 16, 2) := by decide +kernel
theorem dX10_round_149 : decode cX10_round 149 = .ok (.iload 8, 2) := by decide +kernel
theorem dX10_round_151 : decode cX10_round 151 = .ok (.iconst 1, 1) := by decide +kernel
theorem dX10_round_152 : decode cX10_round 152 = .ok (.iload 10, 2) := by decide +kernel
theorem dX10_round_154 : decode cX10_round 154 = .ok (.ishl, 1) := by decide +kernel
theorem dX10_round_155 : decode cX10_round 155 = .ok (.ior, 1) := by decide +kernel
theorem dX10_round_156 : decode cX10_round 156 = .ok (.imul, 1) := by decide +kernel
theorem dX10_round_157 : decode cX10_round 157 = .ok (.iload 10, 2) := by decide +kernel
theorem dX10_round_159 : decode cX10_round 159 = .ok (.iadd, 1) := by decide +kernel
theorem dX10_round_160 : decode cX10_round 160 = .ok (.istore 11, 2) := by decide +kernel
theorem dX10_round_162 : decode cX10_round 162 = .ok (.aload_n 0, 1) := by decide +kernel
theorem dX10_round_163 : decode cX10_round 163 = .ok (.getfield 19, 3) := by decide +kernel
theorem dX10_round_166 : decode cX10_round 166 = .ok (.iload 9, 2) := by decide +kernel
theorem dX10_round_168 : decode cX10_round 168 = .ok (.iaload, 1) := by decide +kernel
theorem dX10_round_169 : decode cX10_round 169 = .ok (.iload 10, 2) := by decide +kernel
theorem dX10_round_171 : decode cX10_round 171 = .ok (.invokestatic 120, 3) := by decide +kernel
theorem dX10_round_174 : decode cX10_round 174 = .ok (.ifCond .eq 53, 3) := by decide +kernel
theorem dX10_round_177 : decode cX10_round 177 = .ok (.aload_n 0, 1) := by decide +kernel
theorem dX10_round_178 : decode cX10_round 178 = .ok (.getfield 87, 3) := by decide +kernel
theorem dX10_round_181 : decode cX10_round 181 = .ok (.iload 11, 2) := by decide +kernel
theorem dX10_round_183 : decode cX10_round 183 = .ok (.baload, 1) := by decide +kernel
theorem dX10_round_184 : decode cX10_round 184 = .ok (.ifCond .eq 6, 3) := by decide +kernel
theorem dX10_round_187 : decode cX10_round 187 = .ok (.goto 40, 3) := by decide +kernel
theorem dX10_round_190 : decode cX10_round 190 = .ok (.aload_n 0, 1) := by decide +kernel
theorem dX10_round_191 : decode cX10_round 191 = .ok (.getfield 87, 3) := by decide +kernel
theorem dX10_round_194 : decode cX10_round 194 = .ok (.iload 11, 2) := by decide +kernel
theorem dX10_round_196 : decode cX10_round 196 = .ok (.aload_n 0, 1) := by decide +kernel
theorem dX10_round_197 : decode cX10_round 197 = .ok (.getfield 87, 3) := by decide +kernel
theorem dX10_round_200 : decode cX10_round 200 = .ok (.aload_n 0, 1) := by decide +kernel
theorem dX10_round_201 : decode cX10_round 201 = .ok (.getfield 91, 3) := by decide +kernel
theorem dX10_round_204 : decode cX10_round 204 = .ok (.iload 7, 2) := by decide +kernel
theorem dX10_round_206 : decode cX10_round 206 = .ok (.iaload, 1) := by decide +kernel
theorem dX10_round_207 : decode cX10_round 207 = .ok (.baload, 1) := by decide +kernel
theorem dX10_round_208 : decode cX10_round 208 = .ok (.iconst 1, 1) := by decide +kernel
theorem dX10_round_209 : decode cX10_round 209 = .ok (.iadd, 1) := by decide +kernel
theorem dX10_round_210 : decode cX10_round 210 = .ok (.i2b, 1) := by decide +kernel
theorem dX10_round_211 : decode cX10_round 211 = .ok (.bastore, 1) := by decide +kernel
theorem dX10_round_212 : decode cX10_round 212 = .ok (.aload_n 0, 1) := by decide +kernel
theorem dX10_round_213 : decode cX10_round 213 = .ok (.getfield 91, 3) := by decide +kernel
theorem dX10_round_216 : decode cX10_round 216 = .ok (.iload 5, 2) := by decide +kernel
theorem dX10_round_218 : decode cX10_round 218 = .ok (.iload 11, 2) := by decide +kernel
theorem dX10_round_220 : decode cX10_round 220 = .ok (.iastore, 1) := by decide +kernel
theorem dX10_round_221 : decode cX10_round 221 = .ok (.iload 5, 2) := by decide +kernel
theorem dX10_round_223 : decode cX10_round 223 = .ok (.iconst 1, 1) := by decide +kernel
theorem dX10_round_224 : decode cX10_round 224 = .ok (.iadd, 1) := by decide +kernel
theorem dX10_round_225 : decode cX10_round 225 = .ok (.istore 5, 2) := by decide +kernel
theorem dX10_round_227 : decode cX10_round 227 = .ok (.iinc 10 1, 3) := by decide +kernel
theorem dX10_round_230 : decode cX10_round 230 = .ok (.goto (-90), 3) := by decide +kernel
theorem dX10_round_233 : decode cX10_round 233 = .ok (.iinc 7 1, 3) := by decide +kernel
theorem dX10_round_236 : decode cX10_round 236 = .ok (.goto (-170), 3) := by decide +kernel
theorem dX10_round_239 : decode cX10_round 239 = .ok (.iconst 0, 1) := by decide +kernel
theorem dX10_round_240 : decode cX10_round 240 = .ok (.istore 7, 2) := by decide +kernel
theorem dX10_round_242 : decode cX10_round 242 = .ok (.iload 7, 2) := by decide +kernel
theorem dX10_round_244 : decode cX10_round 244 = .ok (.iload 5, 2) := by decide +kernel
theorem dX10_round_246 : decode cX10_round 246 = .ok (.if_icmp .ge 22, 3) := by decide +kernel
theorem dX10_round_249 : decode cX10_round 249 = .ok (.aload_n 0, 1) := by decide +kernel
theorem dX10_round_250 : decode cX10_round 250 = .ok (.getfield 87, 3) := by decide +kernel
theorem dX10_round_253 : decode cX10_round 253 = .ok (.aload_n 0, 1) := by decide +kernel
theorem dX10_round_254 : decode cX10_round 254 = .ok (.getfield 91, 3) := by decide +kernel
theorem dX10_round_257 : decode cX10_round 257 = .ok (.iload 7, 2) := by decide +kernel
theorem dX10_round_259 : decode cX10_round 259 = .ok (.iaload, 1) := by decide +kernel
theorem dX10_round_260 : decode cX10_round 260 = .ok (.iconst 0, 1) := by decide +kernel
theorem dX10_round_261 : decode cX10_round 261 = .ok (.bastore, 1) := by decide +kernel
theorem dX10_round_262 : decode cX10_round 262 = .ok (.iinc 7 1, 3) := by decide +kernel
theorem dX10_round_265 : decode cX10_round 265 = .ok (.goto (-23), 3) := by decide +kernel
theorem dX10_round_268 : decode cX10_round 268 = .ok (.iload_n 3, 1) := by decide +kernel
theorem dX10_round_269 : decode cX10_round 269 = .ok (.ifCond .ne 12, 3) := by decide +kernel
theorem dX10_round_272 : decode cX10_round 272 = .ok (.aload_n 0, 1) := by decide +kernel
theorem dX10_round_273 : decode cX10_round 273 = .ok (.iload 6, 2) := by decide +kernel
theorem dX10_round_275 : decode cX10_round 275 = .ok (.invokevirtual 341, 3) := by decide +kernel
theorem dX10_round_278 : decode cX10_round 278 = .ok (.goto 5, 3) := by decide +kernel
theorem dX10_round_281 : decode cX10_round 281 = .ok (.iload 6, 2) := by decide +kernel
theorem dX10_round_283 : decode cX10_round 283 = .ok (.ireturn, 1) := by decide +kernel
theorem dX10_isBetter_0 : decode cX10_isBetter 0 = .ok (.aload_n 0, 1) := by decide +kernel
theorem dX10_isBetter_1 : decode cX10_isBetter 1 = .ok (.iload_n 1, 1) := by decide +kernel
theorem dX10_isBetter_2 : decode cX10_isBetter 2 = .ok (.invokevirtual 341, 3) := by decide +kernel
theorem dX10_isBetter_5 : decode cX10_isBetter 5 = .ok (.istore_n 3, 1) := by decide +kernel
theorem dX10_isBetter_6 : decode cX10_isBetter 6 = .ok (.aload_n 0, 1) := by decide +kernel
theorem dX10_isBetter_7 : decode cX10_isBetter 7 = .ok (.iload_n 2, 1) := by decide +kernel
theorem dX10_isBetter_8 : decode cX10_isBetter 8 = .ok (.invokevirtual 341, 3) := by decide +kernel
theorem dX10_isBetter_11 : decode cX10_isBetter 11 = .ok (.istore 4, 2) := by decide +kernel
theorem dX10_isBetter_13 : decode cX10_isBetter 13 = .ok (.iload_n 3, 1) := by decide +kernel
theorem dX10_isBetter_14 : decode cX10_isBetter 14 = .ok (.iload 4, 2) := by decide +kernel
theorem dX10_isBetter_16 : decode cX10_isBetter 16 = .ok (.if_icmp .gt 14, 3) := by decide +kernel
theorem dX10_isBetter_19 : decode cX10_isBetter 19 = .ok (.iload_n 3, 1) := by decide +kernel
theorem dX10_isBetter_20 : decode cX10_isBetter 20 = .ok (.iload 4, 2) := by decide +kernel
theorem dX10_isBetter_22 : decode cX10_isBetter 22 = .ok (.if_icmp .ne 12, 3) := by decide +kernel
theorem dX10_isBetter_25 : decode cX10_isBetter 25 = .ok (.iload_n 1, 1) := by decide +kernel
theorem dX10_isBetter_26 : decode cX10_isBetter 26 = .ok (.iload_n 2, 1) := by decide +kernel
theorem dX10_isBetter_27 : decode cX10_isBetter 27 = .ok (.if_icmp .ge 7, 3) := by decide +kernel
theorem dX10_isBetter_30 : decode cX10_isBetter 30 = .ok (.iconst 1, 1) := by decide +kernel
theorem dX10_isBetter_31 : decode cX10_isBetter 31 = .ok (.goto 4, 3) := by decide +kernel
theorem dX10_isBetter_34 : decode cX10_isBetter 34 = .ok (.iconst 0, 1) := by decide +kernel
theorem dX10_isBetter_35 : decode cX10_isBetter 35 = .ok (.ireturn, 1) := by decide +kernel
theorem dX10_laysSteps_0 : decode cX10_laysSteps 0 = .ok (.iconst 0, 1) := by decide +kernel
theorem dX10_laysSteps_1 : decode cX10_laysSteps 1 = .ok (.istore_n 2, 1) := by decide +kernel
theorem dX10_laysSteps_2 : decode cX10_laysSteps 2 = .ok (.iload_n 2, 1) := by decide +kernel
theorem dX10_laysSteps_3 : decode cX10_laysSteps 3 = .ok (.bipush 16, 2) := by decide +kernel
theorem dX10_laysSteps_5 : decode cX10_laysSteps 5 = .ok (.if_icmp .ge 23, 3) := by decide +kernel
theorem dX10_laysSteps_8 : decode cX10_laysSteps 8 = .ok (.aload_n 0, 1) := by decide +kernel
theorem dX10_laysSteps_9 : decode cX10_laysSteps 9 = .ok (.getfield 97, 3) := by decide +kernel
theorem dX10_laysSteps_12 : decode cX10_laysSteps 12 = .ok (.iload_n 2, 1) := by decide +kernel
theorem dX10_laysSteps_13 : decode cX10_laysSteps 13 = .ok (.iconst (-1), 1) := by decide +kernel
theorem dX10_laysSteps_14 : decode cX10_laysSteps 14 = .ok (.iastore, 1) := by decide +kernel
theorem dX10_laysSteps_15 : decode cX10_laysSteps 15 = .ok (.aload_n 0, 1) := by decide +kernel
theorem dX10_laysSteps_16 : decode cX10_laysSteps 16 = .ok (.getfield 100, 3) := by decide +kernel
theorem dX10_laysSteps_19 : decode cX10_laysSteps 19 = .ok (.iload_n 2, 1) := by decide +kernel
theorem dX10_laysSteps_20 : decode cX10_laysSteps 20 = .ok (.iconst 0, 1) := by decide +kernel
theorem dX10_laysSteps_21 : decode cX10_laysSteps 21 = .ok (.iastore, 1) := by decide +kernel
theorem dX10_laysSteps_22 : decode cX10_laysSteps 22 = .ok (.iinc 2 1, 3) := by decide +kernel
theorem dX10_laysSteps_25 : decode cX10_laysSteps 25 = .ok (.goto (-23), 3) := by decide +kernel
theorem dX10_laysSteps_28 : decode cX10_laysSteps 28 = .ok (.aload_n 0, 1) := by decide +kernel
theorem dX10_laysSteps_29 : decode cX10_laysSteps 29 = .ok (.getfield 97, 3) := by decide +kernel
theorem dX10_laysSteps_32 : decode cX10_laysSteps 32 = .ok (.iload_n 1, 1) := by decide +kernel
theorem dX10_laysSteps_33 : decode cX10_laysSteps 33 = .ok (.iconst 0, 1) := by decide +kernel
theorem dX10_laysSteps_34 : decode cX10_laysSteps 34 = .ok (.iastore, 1) := by decide +kernel
theorem dX10_laysSteps_35 : decode cX10_laysSteps 35 = .ok (.aload_n 0, 1) := by decide +kernel
theorem dX10_laysSteps_36 : decode cX10_laysSteps 36 = .ok (.getfield 100, 3) := by decide +kernel
theorem dX10_laysSteps_39 : decode cX10_laysSteps 39 = .ok (.iload_n 1, 1) := by decide +kernel
theorem dX10_laysSteps_40 : decode cX10_laysSteps 40 = .ok (.iconst 1, 1) := by decide +kernel
theorem dX10_laysSteps_41 : decode cX10_laysSteps 41 = .ok (.iastore, 1) := by decide +kernel
theorem dX10_laysSteps_42 : decode cX10_laysSteps 42 = .ok (.aload_n 0, 1) := by decide +kernel
theorem dX10_laysSteps_43 : decode cX10_laysSteps 43 = .ok (.getfield 94, 3) := by decide +kernel
theorem dX10_laysSteps_46 : decode cX10_laysSteps 46 = .ok (.iconst 0, 1) := by decide +kernel
theorem dX10_laysSteps_47 : decode cX10_laysSteps 47 = .ok (.iload_n 1, 1) := by decide +kernel
theorem dX10_laysSteps_48 : decode cX10_laysSteps 48 = .ok (.iastore, 1) := by decide +kernel
theorem dX10_laysSteps_49 : decode cX10_laysSteps 49 = .ok (.iconst 1, 1) := by decide +kernel
theorem dX10_laysSteps_50 : decode cX10_laysSteps 50 = .ok (.istore_n 2, 1) := by decide +kernel
theorem dX10_laysSteps_51 : decode cX10_laysSteps 51 = .ok (.iconst 0, 1) := by decide +kernel
theorem dX10_laysSteps_52 : decode cX10_laysSteps 52 = .ok (.istore_n 3, 1) := by decide +kernel
theorem dX10_laysSteps_53 : decode cX10_laysSteps 53 = .ok (.iload_n 3, 1) := by decide +kernel
theorem dX10_laysSteps_54 : decode cX10_laysSteps 54 = .ok (.iload_n 2, 1) := by decide +kernel
theorem dX10_laysSteps_55 : decode cX10_laysSteps 55 = .ok (.if_icmp .ge 131, 3) := by decide +kernel
theorem dX10_laysSteps_58 : decode cX10_laysSteps 58 = .ok (.aload_n 0, 1) := by decide +kernel
theorem dX10_laysSteps_59 : decode cX10_laysSteps 59 = .ok (.getfield 94, 3) := by decide +kernel
theorem dX10_laysSteps_62 : decode cX10_laysSteps 62 = .ok (.iload_n 3, 1) := by decide +kernel
theorem dX10_laysSteps_63 : decode cX10_laysSteps 63 = .ok (.iaload, 1) := by decide +kernel
theorem dX10_laysSteps_64 : decode cX10_laysSteps 64 = .ok (.istore 4, 2) := by decide +kernel
theorem dX10_laysSteps_66 : decode cX10_laysSteps 66 = .ok (.iconst 0, 1) := by decide +kernel
theorem dX10_laysSteps_67 : decode cX10_laysSteps 67 = .ok (.istore 5, 2) := by decide +kernel
theorem dX10_laysSteps_69 : decode cX10_laysSteps 69 = .ok (.iload 5, 2) := by decide +kernel
theorem dX10_laysSteps_71 : decode cX10_laysSteps 71 = .ok (.bipush 16, 2) := by decide +kernel
theorem dX10_laysSteps_73 : decode cX10_laysSteps 73 = .ok (.if_icmp .ge 107, 3) := by decide +kernel
theorem dX10_laysSteps_76 : decode cX10_laysSteps 76 = .ok (.aload_n 0, 1) := by decide +kernel
theorem dX10_laysSteps_77 : decode cX10_laysSteps 77 = .ok (.getfield 19, 3) := by decide +kernel
theorem dX10_laysSteps_80 : decode cX10_laysSteps 80 = .ok (.iload 4, 2) := by decide +kernel
theorem dX10_laysSteps_82 : decode cX10_laysSteps 82 = .ok (.iaload, 1) := by decide +kernel
theorem dX10_laysSteps_83 : decode cX10_laysSteps 83 = .ok (.iload 5, 2) := by decide +kernel
theorem dX10_laysSteps_85 : decode cX10_laysSteps 85 = .ok (.invokestatic 120, 3) := by decide +kernel
theorem dX10_laysSteps_88 : decode cX10_laysSteps 88 = .ok (.ifCond .ne 6, 3) := by decide +kernel
theorem dX10_laysSteps_91 : decode cX10_laysSteps 91 = .ok (.goto 83, 3) := by decide +kernel
theorem dX10_laysSteps_94 : decode cX10_laysSteps 94 = .ok (.aload_n 0, 1) := by decide +kernel
theorem dX10_laysSteps_95 : decode cX10_laysSteps 95 = .ok (.getfield 97, 3) := by decide +kernel
theorem dX10_laysSteps_98 : decode cX10_laysSteps 98 = .ok (.iload 5, 2) := by decide +kernel
theorem dX10_laysSteps_100 : decode cX10_laysSteps 100 = .ok (.iaload, 1) := by decide +kernel
theorem dX10_laysSteps_101 : decode cX10_laysSteps 101 = .ok (.iconst (-1), 1) := by decide +kernel
theorem dX10_laysSteps_102 : decode cX10_laysSteps 102 = .ok (.if_icmp .ne 31, 3) := by decide +kernel
theorem dX10_laysSteps_105 : decode cX10_laysSteps 105 = .ok (.aload_n 0, 1) := by decide +kernel
theorem dX10_laysSteps_106 : decode cX10_laysSteps 106 = .ok (.getfield 97, 3) := by decide +kernel
theorem dX10_laysSteps_109 : decode cX10_laysSteps 109 = .ok (.iload 5, 2) := by decide +kernel
theorem dX10_laysSteps_111 : decode cX10_laysSteps 111 = .ok (.aload_n 0, 1) := by decide +kernel
theorem dX10_laysSteps_112 : decode cX10_laysSteps 112 = .ok (.getfield 97, 3) := by decide +kernel
theorem dX10_laysSteps_115 : decode cX10_laysSteps 115 = .ok (.iload 4, 2) := by decide +kernel
theorem dX10_laysSteps_117 : decode cX10_laysSteps 117 = .ok (.iaload, 1) := by decide +kernel
theorem dX10_laysSteps_118 : decode cX10_laysSteps 118 = .ok (.iconst 1, 1) := by decide +kernel
theorem dX10_laysSteps_119 : decode cX10_laysSteps 119 = .ok (.iadd, 1) := by decide +kernel
theorem dX10_laysSteps_120 : decode cX10_laysSteps 120 = .ok (.iastore, 1) := by decide +kernel
theorem dX10_laysSteps_121 : decode cX10_laysSteps 121 = .ok (.aload_n 0, 1) := by decide +kernel
theorem dX10_laysSteps_122 : decode cX10_laysSteps 122 = .ok (.getfield 94, 3) := by decide +kernel
theorem dX10_laysSteps_125 : decode cX10_laysSteps 125 = .ok (.iload_n 2, 1) := by decide +kernel
theorem dX10_laysSteps_126 : decode cX10_laysSteps 126 = .ok (.iload 5, 2) := by decide +kernel
theorem dX10_laysSteps_128 : decode cX10_laysSteps 128 = .ok (.iastore, 1) := by decide +kernel
theorem dX10_laysSteps_129 : decode cX10_laysSteps 129 = .ok (.iload_n 2, 1) := by decide +kernel
theorem dX10_laysSteps_130 : decode cX10_laysSteps 130 = .ok (.iconst 1, 1) := by decide +kernel
theorem dX10_laysSteps_131 : decode cX10_laysSteps 131 = .ok (.iadd, 1) := by decide +kernel
theorem dX10_laysSteps_132 : decode cX10_laysSteps 132 = .ok (.istore_n 2, 1) := by decide +kernel
theorem dX10_laysSteps_133 : decode cX10_laysSteps 133 = .ok (.aload_n 0, 1) := by decide +kernel
theorem dX10_laysSteps_134 : decode cX10_laysSteps 134 = .ok (.getfield 97, 3) := by decide +kernel
theorem dX10_laysSteps_137 : decode cX10_laysSteps 137 = .ok (.iload 5, 2) := by decide +kernel
theorem dX10_laysSteps_139 : decode cX10_laysSteps 139 = .ok (.iaload, 1) := by decide +kernel
theorem dX10_laysSteps_140 : decode cX10_laysSteps 140 = .ok (.aload_n 0, 1) := by decide +kernel
theorem dX10_laysSteps_141 : decode cX10_laysSteps 141 = .ok (.getfield 97, 3) := by decide +kernel
theorem dX10_laysSteps_144 : decode cX10_laysSteps 144 = .ok (.iload 4, 2) := by decide +kernel
theorem dX10_laysSteps_146 : decode cX10_laysSteps 146 = .ok (.iaload, 1) := by decide +kernel
theorem dX10_laysSteps_147 : decode cX10_laysSteps 147 = .ok (.iconst 1, 1) := by decide +kernel
theorem dX10_laysSteps_148 : decode cX10_laysSteps 148 = .ok (.iadd, 1) := by decide +kernel
theorem dX10_laysSteps_149 : decode cX10_laysSteps 149 = .ok (.if_icmp .ne 25, 3) := by decide +kernel
theorem dX10_laysSteps_152 : decode cX10_laysSteps 152 = .ok (.aload_n 0, 1) := by decide +kernel
theorem dX10_laysSteps_153 : decode cX10_laysSteps 153 = .ok (.getfield 100, 3) := by decide +kernel
theorem dX10_laysSteps_156 : decode cX10_laysSteps 156 = .ok (.iload 5, 2) := by decide +kernel
theorem dX10_laysSteps_158 : decode cX10_laysSteps 158 = .ok (.aload_n 0, 1) := by decide +kernel
theorem dX10_laysSteps_159 : decode cX10_laysSteps 159 = .ok (.getfield 100, 3) := by decide +kernel
theorem dX10_laysSteps_162 : decode cX10_laysSteps 162 = .ok (.iload 5, 2) := by decide +kernel
theorem dX10_laysSteps_164 : decode cX10_laysSteps 164 = .ok (.iaload, 1) := by decide +kernel
theorem dX10_laysSteps_165 : decode cX10_laysSteps 165 = .ok (.aload_n 0, 1) := by decide +kernel
theorem dX10_laysSteps_166 : decode cX10_laysSteps 166 = .ok (.getfield 100, 3) := by decide +kernel
theorem dX10_laysSteps_169 : decode cX10_laysSteps 169 = .ok (.iload 4, 2) := by decide +kernel
theorem dX10_laysSteps_171 : decode cX10_laysSteps 171 = .ok (.iaload, 1) := by decide +kernel
theorem dX10_laysSteps_172 : decode cX10_laysSteps 172 = .ok (.iadd, 1) := by decide +kernel
theorem dX10_laysSteps_173 : decode cX10_laysSteps 173 = .ok (.iastore, 1) := by decide +kernel
theorem dX10_laysSteps_174 : decode cX10_laysSteps 174 = .ok (.iinc 5 1, 3) := by decide +kernel
theorem dX10_laysSteps_177 : decode cX10_laysSteps 177 = .ok (.goto (-108), 3) := by decide +kernel
theorem dX10_laysSteps_180 : decode cX10_laysSteps 180 = .ok (.iinc 3 1, 3) := by decide +kernel
theorem dX10_laysSteps_183 : decode cX10_laysSteps 183 = .ok (.goto (-130), 3) := by decide +kernel
theorem dX10_laysSteps_186 : decode cX10_laysSteps 186 = .ok (.return_, 1) := by decide +kernel
theorem dX10_isBridge_0 : decode cX10_isBridge 0 = .ok (.aload_n 0, 1) := by decide +kernel
theorem dX10_isBridge_1 : decode cX10_isBridge 1 = .ok (.getfield 19, 3) := by decide +kernel
theorem dX10_isBridge_4 : decode cX10_isBridge 4 = .ok (.iload_n 1, 1) := by decide +kernel
theorem dX10_isBridge_5 : decode cX10_isBridge 5 = .ok (.aload_n 0, 1) := by decide +kernel
theorem dX10_isBridge_6 : decode cX10_isBridge 6 = .ok (.getfield 19, 3) := by decide +kernel
theorem dX10_isBridge_9 : decode cX10_isBridge 9 = .ok (.iload_n 1, 1) := by decide +kernel
theorem dX10_isBridge_10 : decode cX10_isBridge 10 = .ok (.iaload, 1) := by decide +kernel
theorem dX10_isBridge_11 : decode cX10_isBridge 11 = .ok (.iconst 1, 1) := by decide +kernel
theorem dX10_isBridge_12 : decode cX10_isBridge 12 = .ok (.iload_n 2, 1) := by decide +kernel
theorem dX10_isBridge_13 : decode cX10_isBridge 13 = .ok (.ishl, 1) := by decide +kernel
theorem dX10_isBridge_14 : decode cX10_isBridge 14 = .ok (.iconst (-1), 1) := by decide +kernel
theorem dX10_isBridge_15 : decode cX10_isBridge 15 = .ok (.ixor, 1) := by decide +kernel
theorem dX10_isBridge_16 : decode cX10_isBridge 16 = .ok (.iand, 1) := by decide +kernel
theorem dX10_isBridge_17 : decode cX10_isBridge 17 = .ok (.iastore, 1) := by decide +kernel
theorem dX10_isBridge_18 : decode cX10_isBridge 18 = .ok (.aload_n 0, 1) := by decide +kernel
theorem dX10_isBridge_19 : decode cX10_isBridge 19 = .ok (.getfield 19, 3) := by decide +kernel
theorem dX10_isBridge_22 : decode cX10_isBridge 22 = .ok (.iload_n 2, 1) := by decide +kernel
theorem dX10_isBridge_23 : decode cX10_isBridge 23 = .ok (.aload_n 0, 1) := by decide +kernel
theorem dX10_isBridge_24 : decode cX10_isBridge 24 = .ok (.getfield 19, 3) := by decide +kernel
theorem dX10_isBridge_27 : decode cX10_isBridge 27 = .ok (.iload_n 2, 1) := by decide +kernel
theorem dX10_isBridge_28 : decode cX10_isBridge 28 = .ok (.iaload, 1) := by decide +kernel
theorem dX10_isBridge_29 : decode cX10_isBridge 29 = .ok (.iconst 1, 1) := by decide +kernel
theorem dX10_isBridge_30 : decode cX10_isBridge 30 = .ok (.iload_n 1, 1) := by decide +kernel
theorem dX10_isBridge_31 : decode cX10_isBridge 31 = .ok (.ishl, 1) := by decide +kernel
theorem dX10_isBridge_32 : decode cX10_isBridge 32 = .ok (.iconst (-1), 1) := by decide +kernel
theorem dX10_isBridge_33 : decode cX10_isBridge 33 = .ok (.ixor, 1) := by decide +kernel
theorem dX10_isBridge_34 : decode cX10_isBridge 34 = .ok (.iand, 1) := by decide +kernel
theorem dX10_isBridge_35 : decode cX10_isBridge 35 = .ok (.iastore, 1) := by decide +kernel
theorem dX10_isBridge_36 : decode cX10_isBridge 36 = .ok (.aload_n 0, 1) := by decide +kernel
theorem dX10_isBridge_37 : decode cX10_isBridge 37 = .ok (.iload_n 1, 1) := by decide +kernel
theorem dX10_isBridge_38 : decode cX10_isBridge 38 = .ok (.invokevirtual 344, 3) := by decide +kernel
theorem dX10_isBridge_41 : decode cX10_isBridge 41 = .ok (.aload_n 0, 1) := by decide +kernel
theorem dX10_isBridge_42 : decode cX10_isBridge 42 = .ok (.getfield 19, 3) := by decide +kernel
theorem dX10_isBridge_45 : decode cX10_isBridge 45 = .ok (.iload_n 1, 1) := by decide +kernel
theorem dX10_isBridge_46 : decode cX10_isBridge 46 = .ok (.aload_n 0, 1) := by decide +kernel
theorem dX10_isBridge_47 : decode cX10_isBridge 47 = .ok (.getfield 19, 3) := by decide +kernel
theorem dX10_isBridge_50 : decode cX10_isBridge 50 = .ok (.iload_n 1, 1) := by decide +kernel
theorem dX10_isBridge_51 : decode cX10_isBridge 51 = .ok (.iaload, 1) := by decide +kernel
theorem dX10_isBridge_52 : decode cX10_isBridge 52 = .ok (.iconst 1, 1) := by decide +kernel
theorem dX10_isBridge_53 : decode cX10_isBridge 53 = .ok (.iload_n 2, 1) := by decide +kernel
theorem dX10_isBridge_54 : decode cX10_isBridge 54 = .ok (.ishl, 1) := by decide +kernel
theorem dX10_isBridge_55 : decode cX10_isBridge 55 = .ok (.ior, 1) := by decide +kernel
theorem dX10_isBridge_56 : decode cX10_isBridge 56 = .ok (.iastore, 1) := by decide +kernel
theorem dX10_isBridge_57 : decode cX10_isBridge 57 = .ok (.aload_n 0, 1) := by decide +kernel
theorem dX10_isBridge_58 : decode cX10_isBridge 58 = .ok (.getfield 19, 3) := by decide +kernel
theorem dX10_isBridge_61 : decode cX10_isBridge 61 = .ok (.iload_n 2, 1) := by decide +kernel
theorem dX10_isBridge_62 : decode cX10_isBridge 62 = .ok (.aload_n 0, 1) := by decide +kernel
theorem dX10_isBridge_63 : decode cX10_isBridge 63 = .ok (.getfield 19, 3) := by decide +kernel
theorem dX10_isBridge_66 : decode cX10_isBridge 66 = .ok (.iload_n 2, 1) := by decide +kernel
theorem dX10_isBridge_67 : decode cX10_isBridge 67 = .ok (.iaload, 1) := by decide +kernel
theorem dX10_isBridge_68 : decode cX10_isBridge 68 = .ok (.iconst 1, 1) := by decide +kernel
theorem dX10_isBridge_69 : decode cX10_isBridge 69 = .ok (.iload_n 1, 1) := by decide +kernel
theorem dX10_isBridge_70 : decode cX10_isBridge 70 = .ok (.ishl, 1) := by decide +kernel
theorem dX10_isBridge_71 : decode cX10_isBridge 71 = .ok (.ior, 1) := by decide +kernel
theorem dX10_isBridge_72 : decode cX10_isBridge 72 = .ok (.iastore, 1) := by decide +kernel
theorem dX10_isBridge_73 : decode cX10_isBridge 73 = .ok (.aload_n 0, 1) := by decide +kernel
theorem dX10_isBridge_74 : decode cX10_isBridge 74 = .ok (.getfield 97, 3) := by decide +kernel
theorem dX10_isBridge_77 : decode cX10_isBridge 77 = .ok (.iload_n 2, 1) := by decide +kernel
theorem dX10_isBridge_78 : decode cX10_isBridge 78 = .ok (.iaload, 1) := by decide +kernel
theorem dX10_isBridge_79 : decode cX10_isBridge 79 = .ok (.iconst (-1), 1) := by decide +kernel
theorem dX10_isBridge_80 : decode cX10_isBridge 80 = .ok (.if_icmp .ne 7, 3) := by decide +kernel
theorem dX10_isBridge_83 : decode cX10_isBridge 83 = .ok (.iconst 1, 1) := by decide +kernel
theorem dX10_isBridge_84 : decode cX10_isBridge 84 = .ok (.goto 4, 3) := by decide +kernel
theorem dX10_isBridge_87 : decode cX10_isBridge 87 = .ok (.iconst 0, 1) := by decide +kernel
theorem dX10_isBridge_88 : decode cX10_isBridge 88 = .ok (.ireturn, 1) := by decide +kernel
theorem dX10_lanes_0 : decode cX10_lanes 0 = .ok (.iload_n 1, 1) := by decide +kernel
theorem dX10_lanes_1 : decode cX10_lanes 1 = .ok (.iconst 0, 1) := by decide +kernel
theorem dX10_lanes_2 : decode cX10_lanes 2 = .ok (.iconst 3, 1) := by decide +kernel
theorem dX10_lanes_3 : decode cX10_lanes 3 = .ok (.invokestatic 112, 3) := by decide +kernel
theorem dX10_lanes_6 : decode cX10_lanes 6 = .ok (.ifCond .ne 5, 3) := by decide +kernel
theorem dX10_lanes_9 : decode cX10_lanes 9 = .ok (.iconst (-1), 1) := by decide +kernel
theorem dX10_lanes_10 : decode cX10_lanes 10 = .ok (.ireturn, 1) := by decide +kernel
theorem dX10_lanes_11 : decode cX10_lanes 11 = .ok (.iconst 0, 1) := by decide +kernel
theorem dX10_lanes_12 : decode cX10_lanes 12 = .ok (.istore_n 2, 1) := by decide +kernel
theorem dX10_lanes_13 : decode cX10_lanes 13 = .ok (.iconst 0, 1) := by decide +kernel
theorem dX10_lanes_14 : decode cX10_lanes 14 = .ok (.istore_n 3, 1) := by decide +kernel
theorem dX10_lanes_15 : decode cX10_lanes 15 = .ok (.bipush (-2), 2) := by decide +kernel
theorem dX10_lanes_17 : decode cX10_lanes 17 = .ok (.istore 4, 2) := by decide +kernel
theorem dX10_lanes_19 : decode cX10_lanes 19 = .ok (.bipush (-2), 2) := by decide +kernel
theorem dX10_lanes_21 : decode cX10_lanes 21 = .ok (.istore 5, 2) := by decide +kernel
theorem dX10_lanes_23 : decode cX10_lanes 23 = .ok (.bipush 15, 2) := by decide +kernel
theorem dX10_lanes_25 : decode cX10_lanes 25 = .ok (.istore 6, 2) := by decide +kernel
theorem dX10_lanes_27 : decode cX10_lanes 27 = .ok (.iload 6, 2) := by decide +kernel
theorem dX10_lanes_29 : decode cX10_lanes 29 = .ok (.ifCond .lt 74, 3) := by decide +kernel
theorem dX10_lanes_32 : decode cX10_lanes 32 = .ok (.bipush 15, 2) := by decide +kernel
theorem dX10_lanes_34 : decode cX10_lanes 34 = .ok (.istore 7, 2) := by decide +kernel
theorem dX10_lanes_36 : decode cX10_lanes 36 = .ok (.iload 7, 2) := by decide +kernel
theorem dX10_lanes_38 : decode cX10_lanes 38 = .ok (.iload 6, 2) := by decide +kernel
theorem dX10_lanes_40 : decode cX10_lanes 40 = .ok (.if_icmp .le 57, 3) := by decide +kernel
theorem dX10_lanes_43 : decode cX10_lanes 43 = .ok (.aload_n 0, 1) := by decide +kernel
theorem dX10_lanes_44 : decode cX10_lanes 44 = .ok (.getfield 19, 3) := by decide +kernel
theorem dX10_lanes_47 : decode cX10_lanes 47 = .ok (.iload 6, 2) := by decide +kernel
theorem dX10_lanes_49 : decode cX10_lanes 49 = .ok (.iaload, 1) := by decide +kernel
theorem dX10_lanes_50 : decode cX10_lanes 50 = .ok (.iload 7, 2) := by decide +kernel
theorem dX10_lanes_52 : decode cX10_lanes 52 = .ok (.invokestatic 120, 3) := by decide +kernel
theorem dX10_lanes_55 : decode cX10_lanes 55 = .ok (.ifCond .ne 6, 3) := by decide +kernel
theorem dX10_lanes_58 : decode cX10_lanes 58 = .ok (.goto 33, 3) := by decide +kernel
theorem dX10_lanes_61 : decode cX10_lanes 61 = .ok (.iload_n 2, 1) := by decide +kernel
theorem dX10_lanes_62 : decode cX10_lanes 62 = .ok (.iconst 1, 1) := by decide +kernel
theorem dX10_lanes_63 : decode cX10_lanes 63 = .ok (.iadd, 1) := by decide +kernel
theorem dX10_lanes_64 : decode cX10_lanes 64 = .ok (.istore_n 2, 1) := by decide +kernel
theorem dX10_lanes_65 : decode cX10_lanes 65 = .ok (.aload_n 0, 1) := by decide +kernel
theorem dX10_lanes_66 : decode cX10_lanes 66 = .ok (.iload 6, 2) := by decide +kernel
theorem dX10_lanes_68 : decode cX10_lanes 68 = .ok (.iload 7, 2) := by decide +kernel
theorem dX10_lanes_70 : decode cX10_lanes 70 = .ok (.invokevirtual 347, 3) := by decide +kernel
theorem dX10_lanes_73 : decode cX10_lanes 73 = .ok (.ifCond .ne 6, 3) := by decide +kernel
theorem dX10_lanes_76 : decode cX10_lanes 76 = .ok (.goto 15, 3) := by decide +kernel
theorem dX10_lanes_79 : decode cX10_lanes 79 = .ok (.iload_n 3, 1) := by decide +kernel
theorem dX10_lanes_80 : decode cX10_lanes 80 = .ok (.iconst 1, 1) := by decide +kernel
theorem dX10_lanes_81 : decode cX10_lanes 81 = .ok (.iadd, 1) := by decide +kernel
theorem dX10_lanes_82 : decode cX10_lanes 82 = .ok (.istore_n 3, 1) := by decide +kernel
theorem dX10_lanes_83 : decode cX10_lanes 83 = .ok (.iload 6, 2) := by decide +kernel
theorem dX10_lanes_85 : decode cX10_lanes 85 = .ok (.istore 4, 2) := by decide +kernel
theorem dX10_lanes_87 : decode cX10_lanes 87 = .ok (.iload 7, 2) := by decide +kernel
theorem dX10_lanes_89 : decode cX10_lanes 89 = .ok (.istore 5, 2) := by decide +kernel
theorem dX10_lanes_91 : decode cX10_lanes 91 = .ok (.iinc 7 (-1), 3) := by decide +kernel
theorem dX10_lanes_94 : decode cX10_lanes 94 = .ok (.goto (-58), 3) := by decide +kernel
theorem dX10_lanes_97 : decode cX10_lanes 97 = .ok (.iinc 6 (-1), 3) := by decide +kernel
theorem dX10_lanes_100 : decode cX10_lanes 100 = .ok (.goto (-73), 3) := by decide +kernel
theorem dX10_lanes_103 : decode cX10_lanes 103 = .ok (.iload_n 1, 1) := by decide +kernel
theorem dX10_lanes_104 : decode cX10_lanes 104 = .ok (.ifCond .ne 7, 3) := by decide +kernel
theorem dX10_lanes_107 : decode cX10_lanes 107 = .ok (.iload_n 2, 1) := by decide +kernel
theorem dX10_lanes_108 : decode cX10_lanes 108 = .ok (.goto 24, 3) := by decide +kernel
theorem dX10_lanes_111 : decode cX10_lanes 111 = .ok (.iload_n 1, 1) := by decide +kernel
theorem dX10_lanes_112 : decode cX10_lanes 112 = .ok (.iconst 1, 1) := by decide +kernel
theorem dX10_lanes_113 : decode cX10_lanes 113 = .ok (.if_icmp .ne 7, 3) := by decide +kernel
theorem dX10_lanes_116 : decode cX10_lanes 116 = .ok (.iload_n 3, 1) := by decide +kernel
theorem dX10_lanes_117 : decode cX10_lanes 117 = .ok (.goto 15, 3) := by decide +kernel
theorem dX10_lanes_120 : decode cX10_lanes 120 = .ok (.iload_n 1, 1) := by decide +kernel
theorem dX10_lanes_121 : decode cX10_lanes 121 = .ok (.iconst 2, 1) := by decide +kernel
theorem dX10_lanes_122 : decode cX10_lanes 122 = .ok (.if_icmp .ne 8, 3) := by decide +kernel
theorem dX10_lanes_125 : decode cX10_lanes 125 = .ok (.iload 4, 2) := by decide +kernel
theorem dX10_lanes_127 : decode cX10_lanes 127 = .ok (.goto 5, 3) := by decide +kernel
theorem dX10_lanes_130 : decode cX10_lanes 130 = .ok (.iload 5, 2) := by decide +kernel
theorem dX10_lanes_132 : decode cX10_lanes 132 = .ok (.ireturn, 1) := by decide +kernel
theorem dX10_clashes_0 : decode cX10_clashes 0 = .ok (.iconst 0, 1) := by decide +kernel
theorem dX10_clashes_1 : decode cX10_clashes 1 = .ok (.istore_n 2, 1) := by decide +kernel
theorem dX10_clashes_2 : decode cX10_clashes 2 = .ok (.iload_n 2, 1) := by decide +kernel
theorem dX10_clashes_3 : decode cX10_clashes 3 = .ok (.iload_n 1, 1) := by decide +kernel
theorem dX10_clashes_4 : decode cX10_clashes 4 = .ok (.if_icmp .ge 49, 3) := by decide +kernel
theorem dX10_clashes_7 : decode cX10_clashes 7 = .ok (.aload_n 0, 1) := by decide +kernel
theorem dX10_clashes_8 : decode cX10_clashes 8 = .ok (.getfield 103, 3) := by decide +kernel
theorem dX10_clashes_11 : decode cX10_clashes 11 = .ok (.iload_n 2, 1) := by decide +kernel
theorem dX10_clashes_12 : decode cX10_clashes 12 = .ok (.iaload, 1) := by decide +kernel
theorem dX10_clashes_13 : decode cX10_clashes 13 = .ok (.aload_n 0, 1) := by decide +kernel
theorem dX10_clashes_14 : decode cX10_clashes 14 = .ok (.getfield 103, 3) := by decide +kernel
theorem dX10_clashes_17 : decode cX10_clashes 17 = .ok (.iload_n 1, 1) := by decide +kernel
theorem dX10_clashes_18 : decode cX10_clashes 18 = .ok (.iaload, 1) := by decide +kernel
theorem dX10_clashes_19 : decode cX10_clashes 19 = .ok (.if_icmp .ne 28, 3) := by decide +kernel
theorem dX10_clashes_22 : decode cX10_clashes 22 = .ok (.aload_n 0, 1) := by decide +kernel
theorem dX10_clashes_23 : decode cX10_clashes 23 = .ok (.getfield 19, 3) := by decide +kernel
theorem dX10_clashes_26 : decode cX10_clashes 26 = .ok (.aload_n 0, 1) := by decide +kernel
theorem dX10_clashes_27 : decode cX10_clashes 27 = .ok (.getfield 106, 3) := by decide +kernel
theorem dX10_clashes_30 : decode cX10_clashes 30 = .ok (.iload_n 1, 1) := by decide +kernel
theorem dX10_clashes_31 : decode cX10_clashes 31 = .ok (.iaload, 1) := by decide +kernel
theorem dX10_clashes_32 : decode cX10_clashes 32 = .ok (.iaload, 1) := by decide +kernel
theorem dX10_clashes_33 : decode cX10_clashes 33 = .ok (.aload_n 0, 1) := by decide +kernel
theorem dX10_clashes_34 : decode cX10_clashes 34 = .ok (.getfield 106, 3) := by decide +kernel
theorem dX10_clashes_37 : decode cX10_clashes 37 = .ok (.iload_n 2, 1) := by decide +kernel
theorem dX10_clashes_38 : decode cX10_clashes 38 = .ok (.iaload, 1) := by decide +kernel
theorem dX10_clashes_39 : decode cX10_clashes 39 = .ok (.invokestatic 120, 3) := by decide +kernel
theorem dX10_clashes_42 : decode cX10_clashes 42 = .ok (.ifCond .eq 5, 3) := by decide +kernel
theorem dX10_clashes_45 : decode cX10_clashes 45 = .ok (.iconst 1, 1) := by decide +kernel
theorem dX10_clashes_46 : decode cX10_clashes 46 = .ok (.ireturn, 1) := by decide +kernel
theorem dX10_clashes_47 : decode cX10_clashes 47 = .ok (.iinc 2 1, 3) := by decide +kernel
theorem dX10_clashes_50 : decode cX10_clashes 50 = .ok (.goto (-48), 3) := by decide +kernel
theorem dX10_clashes_53 : decode cX10_clashes 53 = .ok (.iconst 0, 1) := by decide +kernel
theorem dX10_clashes_54 : decode cX10_clashes 54 = .ok (.ireturn, 1) := by decide +kernel
theorem dX10_highestOf_0 : decode cX10_highestOf 0 = .ok (.iconst (-1), 1) := by decide +kernel
theorem dX10_highestOf_1 : decode cX10_highestOf 1 = .ok (.istore_n 2, 1) := by decide +kernel
theorem dX10_highestOf_2 : decode cX10_highestOf 2 = .ok (.iconst 0, 1) := by decide +kernel
theorem dX10_highestOf_3 : decode cX10_highestOf 3 = .ok (.istore_n 3, 1) := by decide +kernel
theorem dX10_highestOf_4 : decode cX10_highestOf 4 = .ok (.iload_n 3, 1) := by decide +kernel
theorem dX10_highestOf_5 : decode cX10_highestOf 5 = .ok (.iload_n 1, 1) := by decide +kernel
theorem dX10_highestOf_6 : decode cX10_highestOf 6 = .ok (.if_icmp .ge 20, 3) := by decide +kernel
theorem dX10_highestOf_9 : decode cX10_highestOf 9 = .ok (.iload_n 2, 1) := by decide +kernel
theorem dX10_highestOf_10 : decode cX10_highestOf 10 = .ok (.aload_n 0, 1) := by decide +kernel
theorem dX10_highestOf_11 : decode cX10_highestOf 11 = .ok (.getfield 103, 3) := by decide +kernel
theorem dX10_highestOf_14 : decode cX10_highestOf 14 = .ok (.iload_n 3, 1) := by decide +kernel
theorem dX10_highestOf_15 : decode cX10_highestOf 15 = .ok (.iaload, 1) := by decide +kernel
theorem dX10_highestOf_16 : decode cX10_highestOf 16 = .ok (.invokestatic 287, 3) := by decide +kernel
theorem dX10_highestOf_19 : decode cX10_highestOf 19 = .ok (.istore_n 2, 1) := by decide +kernel
theorem dX10_highestOf_20 : decode cX10_highestOf 20 = .ok (.iinc 3 1, 3) := by decide +kernel
theorem dX10_highestOf_23 : decode cX10_highestOf 23 = .ok (.goto (-19), 3) := by decide +kernel
theorem dX10_highestOf_26 : decode cX10_highestOf 26 = .ok (.iload_n 2, 1) := by decide +kernel
theorem dX10_highestOf_27 : decode cX10_highestOf 27 = .ok (.ireturn, 1) := by decide +kernel
theorem dX10_laysWatches_0 : decode cX10_laysWatches 0 = .ok (.iconst 0, 1) := by decide +kernel
theorem dX10_laysWatches_1 : decode cX10_laysWatches 1 = .ok (.istore_n 3, 1) := by decide +kernel
theorem dX10_laysWatches_2 : decode cX10_laysWatches 2 = .ok (.aload_n 0, 1) := by decide +kernel
theorem dX10_laysWatches_3 : decode cX10_laysWatches 3 = .ok (.getfield 103, 3) := by decide +kernel
theorem dX10_laysWatches_6 : decode cX10_laysWatches 6 = .ok (.iconst 0, 1) := by decide +kernel
theorem dX10_laysWatches_7 : decode cX10_laysWatches 7 = .ok (.iconst (-1), 1) := by decide +kernel
theorem dX10_laysWatches_8 : decode cX10_laysWatches 8 = .ok (.iastore, 1) := by decide +kernel
theorem dX10_laysWatches_9 : decode cX10_laysWatches 9 = .ok (.iload_n 3, 1) := by decide +kernel
theorem dX10_laysWatches_10 : decode cX10_laysWatches 10 = .ok (.ifCond .lt 82, 3) := by decide +kernel
theorem dX10_laysWatches_13 : decode cX10_laysWatches 13 = .ok (.iload_n 3, 1) := by decide +kernel
theorem dX10_laysWatches_14 : decode cX10_laysWatches 14 = .ok (.iload_n 1, 1) := by decide +kernel
theorem dX10_laysWatches_15 : decode cX10_laysWatches 15 = .ok (.if_icmp .ge 77, 3) := by decide +kernel
theorem dX10_laysWatches_18 : decode cX10_laysWatches 18 = .ok (.aload_n 0, 1) := by decide +kernel
theorem dX10_laysWatches_19 : decode cX10_laysWatches 19 = .ok (.getfield 103, 3) := by decide +kernel
theorem dX10_laysWatches_22 : decode cX10_laysWatches 22 = .ok (.iload_n 3, 1) := by decide +kernel
theorem dX10_laysWatches_23 : decode cX10_laysWatches 23 = .ok (.aload_n 0, 1) := by decide +kernel
theorem dX10_laysWatches_24 : decode cX10_laysWatches 24 = .ok (.getfield 103, 3) := by decide +kernel
theorem dX10_laysWatches_27 : decode cX10_laysWatches 27 = .ok (.iload_n 3, 1) := by decide +kernel
theorem dX10_laysWatches_28 : decode cX10_laysWatches 28 = .ok (.iaload, 1) := by decide +kernel
theorem dX10_laysWatches_29 : decode cX10_laysWatches 29 = .ok (.iconst 1, 1) := by decide +kernel
theorem dX10_laysWatches_30 : decode cX10_laysWatches 30 = .ok (.iadd, 1) := by decide +kernel
theorem dX10_laysWatches_31 : decode cX10_laysWatches 31 = .ok (.iastore, 1) := by decide +kernel
theorem dX10_laysWatches_32 : decode cX10_laysWatches 32 = .ok (.aload_n 0, 1) := by decide +kernel
theorem dX10_laysWatches_33 : decode cX10_laysWatches 33 = .ok (.getfield 103, 3) := by decide +kernel
theorem dX10_laysWatches_36 : decode cX10_laysWatches 36 = .ok (.iload_n 3, 1) := by decide +kernel
theorem dX10_laysWatches_37 : decode cX10_laysWatches 37 = .ok (.iaload, 1) := by decide +kernel
theorem dX10_laysWatches_38 : decode cX10_laysWatches 38 = .ok (.iload_n 2, 1) := by decide +kernel
theorem dX10_laysWatches_39 : decode cX10_laysWatches 39 = .ok (.if_icmp .ge 19, 3) := by decide +kernel
theorem dX10_laysWatches_42 : decode cX10_laysWatches 42 = .ok (.aload_n 0, 1) := by decide +kernel
theorem dX10_laysWatches_43 : decode cX10_laysWatches 43 = .ok (.getfield 103, 3) := by decide +kernel
theorem dX10_laysWatches_46 : decode cX10_laysWatches 46 = .ok (.iload_n 3, 1) := by decide +kernel
theorem dX10_laysWatches_47 : decode cX10_laysWatches 47 = .ok (.iaload, 1) := by decide +kernel
theorem dX10_laysWatches_48 : decode cX10_laysWatches 48 = .ok (.aload_n 0, 1) := by decide +kernel
theorem dX10_laysWatches_49 : decode cX10_laysWatches 49 = .ok (.iload_n 3, 1) := by decide +kernel
theorem dX10_laysWatches_50 : decode cX10_laysWatches 50 = .ok (.invokevirtual 350, 3) := by decide +kernel
theorem dX10_laysWatches_53 : decode cX10_laysWatches 53 = .ok (.iconst 1, 1) := by decide +kernel
theorem dX10_laysWatches_54 : decode cX10_laysWatches 54 = .ok (.iadd, 1) := by decide +kernel
theorem dX10_laysWatches_55 : decode cX10_laysWatches 55 = .ok (.if_icmp .le 10, 3) := by decide +kernel
theorem dX10_laysWatches_58 : decode cX10_laysWatches 58 = .ok (.iload_n 3, 1) := by decide +kernel
theorem dX10_laysWatches_59 : decode cX10_laysWatches 59 = .ok (.iconst 1, 1) := by decide +kernel
theorem dX10_laysWatches_60 : decode cX10_laysWatches 60 = .ok (.isub, 1) := by decide +kernel
theorem dX10_laysWatches_61 : decode cX10_laysWatches 61 = .ok (.istore_n 3, 1) := by decide +kernel
theorem dX10_laysWatches_62 : decode cX10_laysWatches 62 = .ok (.goto (-53), 3) := by decide +kernel
theorem dX10_laysWatches_65 : decode cX10_laysWatches 65 = .ok (.aload_n 0, 1) := by decide +kernel
theorem dX10_laysWatches_66 : decode cX10_laysWatches 66 = .ok (.iload_n 3, 1) := by decide +kernel
theorem dX10_laysWatches_67 : decode cX10_laysWatches 67 = .ok (.invokevirtual 353, 3) := by decide +kernel
theorem dX10_laysWatches_70 : decode cX10_laysWatches 70 = .ok (.ifCond .ne (-61), 3) := by decide +kernel
theorem dX10_laysWatches_73 : decode cX10_laysWatches 73 = .ok (.iload_n 3, 1) := by decide +kernel
theorem dX10_laysWatches_74 : decode cX10_laysWatches 74 = .ok (.iconst 1, 1) := by decide +kernel
theorem dX10_laysWatches_75 : decode cX10_laysWatches 75 = .ok (.iadd, 1) := by decide +kernel
theorem dX10_laysWatches_76 : decode cX10_laysWatches 76 = .ok (.istore_n 3, 1) := by decide +kernel
theorem dX10_laysWatches_77 : decode cX10_laysWatches 77 = .ok (.iload_n 3, 1) := by decide +kernel
theorem dX10_laysWatches_78 : decode cX10_laysWatches 78 = .ok (.iload_n 1, 1) := by decide +kernel
theorem dX10_laysWatches_79 : decode cX10_laysWatches 79 = .ok (.if_icmp .ge (-70), 3) := by decide +kernel
theorem dX10_laysWatches_82 : decode cX10_laysWatches 82 = .ok (.aload_n 0, 1) := by decide +kernel
theorem dX10_laysWatches_83 : decode cX10_laysWatches 83 = .ok (.getfield 103, 3) := by decide +kernel
theorem dX10_laysWatches_86 : decode cX10_laysWatches 86 = .ok (.iload_n 3, 1) := by decide +kernel
theorem dX10_laysWatches_87 : decode cX10_laysWatches 87 = .ok (.iconst (-1), 1) := by decide +kernel
theorem dX10_laysWatches_88 : decode cX10_laysWatches 88 = .ok (.iastore, 1) := by decide +kernel
theorem dX10_laysWatches_89 : decode cX10_laysWatches 89 = .ok (.goto (-80), 3) := by decide +kernel
theorem dX10_laysWatches_92 : decode cX10_laysWatches 92 = .ok (.iload_n 3, 1) := by decide +kernel
theorem dX10_laysWatches_93 : decode cX10_laysWatches 93 = .ok (.iload_n 1, 1) := by decide +kernel
theorem dX10_laysWatches_94 : decode cX10_laysWatches 94 = .ok (.if_icmp .ne 7, 3) := by decide +kernel
theorem dX10_laysWatches_97 : decode cX10_laysWatches 97 = .ok (.iconst 1, 1) := by decide +kernel
theorem dX10_laysWatches_98 : decode cX10_laysWatches 98 = .ok (.goto 4, 3) := by decide +kernel
theorem dX10_laysWatches_101 : decode cX10_laysWatches 101 = .ok (.iconst 0, 1) := by decide +kernel
theorem dX10_laysWatches_102 : decode cX10_laysWatches 102 = .ok (.ireturn, 1) := by decide +kernel
theorem dX10_watches_0 : decode cX10_watches 0 = .ok (.iload_n 1, 1) := by decide +kernel
theorem dX10_watches_1 : decode cX10_watches 1 = .ok (.bipush 100, 2) := by decide +kernel
theorem dX10_watches_3 : decode cX10_watches 3 = .ok (.if_icmp .eq 13, 3) := by decide +kernel
theorem dX10_watches_6 : decode cX10_watches 6 = .ok (.aload_n 0, 1) := by decide +kernel
theorem dX10_watches_7 : decode cX10_watches 7 = .ok (.iload_n 1, 1) := by decide +kernel
theorem dX10_watches_8 : decode cX10_watches 8 = .ok (.invokevirtual 128, 3) := by decide +kernel
theorem dX10_watches_11 : decode cX10_watches 11 = .ok (.ifCond .ne 5, 3) := by decide +kernel
theorem dX10_watches_14 : decode cX10_watches 14 = .ok (.iconst (-1), 1) := by decide +kernel
theorem dX10_watches_15 : decode cX10_watches 15 = .ok (.ireturn, 1) := by decide +kernel
theorem dX10_watches_16 : decode cX10_watches 16 = .ok (.iconst 0, 1) := by decide +kernel
theorem dX10_watches_17 : decode cX10_watches 17 = .ok (.istore_n 2, 1) := by decide +kernel
theorem dX10_watches_18 : decode cX10_watches 18 = .ok (.iconst (-1), 1) := by decide +kernel
theorem dX10_watches_19 : decode cX10_watches 19 = .ok (.istore_n 3, 1) := by decide +kernel
theorem dX10_watches_20 : decode cX10_watches 20 = .ok (.iconst 0, 1) := by decide +kernel
theorem dX10_watches_21 : decode cX10_watches 21 = .ok (.istore 4, 2) := by decide +kernel
theorem dX10_watches_23 : decode cX10_watches 23 = .ok (.iload 4, 2) := by decide +kernel
theorem dX10_watches_25 : decode cX10_watches 25 = .ok (.bipush 16, 2) := by decide +kernel
theorem dX10_watches_27 : decode cX10_watches 27 = .ok (.if_icmp .ge 41, 3) := by decide +kernel
theorem dX10_watches_30 : decode cX10_watches 30 = .ok (.aload_n 0, 1) := by decide +kernel
theorem dX10_watches_31 : decode cX10_watches 31 = .ok (.iload 4, 2) := by decide +kernel
theorem dX10_watches_33 : decode cX10_watches 33 = .ok (.invokevirtual 128, 3) := by decide +kernel
theorem dX10_watches_36 : decode cX10_watches 36 = .ok (.ifCond .ne 6, 3) := by decide +kernel
theorem dX10_watches_39 : decode cX10_watches 39 = .ok (.goto 23, 3) := by decide +kernel
theorem dX10_watches_42 : decode cX10_watches 42 = .ok (.iload 4, 2) := by decide +kernel
theorem dX10_watches_44 : decode cX10_watches 44 = .ok (.iload_n 1, 1) := by decide +kernel
theorem dX10_watches_45 : decode cX10_watches 45 = .ok (.if_icmp .ne 5, 3) := by decide +kernel
theorem dX10_watches_48 : decode cX10_watches 48 = .ok (.iload_n 2, 1) := by decide +kernel
theorem dX10_watches_49 : decode cX10_watches 49 = .ok (.istore_n 3, 1) := by decide +kernel
theorem dX10_watches_50 : decode cX10_watches 50 = .ok (.aload_n 0, 1) := by decide +kernel
theorem dX10_watches_51 : decode cX10_watches 51 = .ok (.getfield 106, 3) := by decide +kernel
theorem dX10_watches_54 : decode cX10_watches 54 = .ok (.iload_n 2, 1) := by decide +kernel
theorem dX10_watches_55 : decode cX10_watches 55 = .ok (.iload 4, 2) := by decide +kernel
theorem dX10_watches_57 : decode cX10_watches 57 = .ok (.iastore, 1) := by decide +kernel
theorem dX10_watches_58 : decode cX10_watches 58 = .ok (.iload_n 2, 1) := by decide +kernel
theorem dX10_watches_59 : decode cX10_watches 59 = .ok (.iconst 1, 1) := by decide +kernel
theorem dX10_watches_60 : decode cX10_watches 60 = .ok (.iadd, 1) := by decide +kernel
theorem dX10_watches_61 : decode cX10_watches 61 = .ok (.istore_n 2, 1) := by decide +kernel
theorem dX10_watches_62 : decode cX10_watches 62 = .ok (.iinc 4 1, 3) := by decide +kernel
theorem dX10_watches_65 : decode cX10_watches 65 = .ok (.goto (-42), 3) := by decide +kernel
theorem dX10_watches_68 : decode cX10_watches 68 = .ok (.iconst 0, 1) := by decide +kernel
theorem dX10_watches_69 : decode cX10_watches 69 = .ok (.istore 4, 2) := by decide +kernel
theorem dX10_watches_71 : decode cX10_watches 71 = .ok (.iload_n 2, 1) := by decide +kernel
theorem dX10_watches_72 : decode cX10_watches 72 = .ok (.ifCond .le 22, 3) := by decide +kernel
theorem dX10_watches_75 : decode cX10_watches 75 = .ok (.aload_n 0, 1) := by decide +kernel
theorem dX10_watches_76 : decode cX10_watches 76 = .ok (.iload_n 2, 1) := by decide +kernel
theorem dX10_watches_77 : decode cX10_watches 77 = .ok (.iload 4, 2) := by decide +kernel
theorem dX10_watches_79 : decode cX10_watches 79 = .ok (.invokevirtual 356, 3) := by decide +kernel
theorem dX10_watches_82 : decode cX10_watches 82 = .ok (.ifCond .ne 12, 3) := by decide +kernel
theorem dX10_watches_85 : decode cX10_watches 85 = .ok (.iload 4, 2) := by decide +kernel
theorem dX10_watches_87 : decode cX10_watches 87 = .ok (.iconst 1, 1) := by decide +kernel
theorem dX10_watches_88 : decode cX10_watches 88 = .ok (.iadd, 1) := by decide +kernel
theorem dX10_watches_89 : decode cX10_watches 89 = .ok (.istore 4, 2) := by decide +kernel
theorem dX10_watches_91 : decode cX10_watches 91 = .ok (.goto (-20), 3) := by decide +kernel
theorem dX10_watches_94 : decode cX10_watches 94 = .ok (.iload_n 1, 1) := by decide +kernel
theorem dX10_watches_95 : decode cX10_watches 95 = .ok (.bipush 100, 2) := by decide +kernel
theorem dX10_watches_97 : decode cX10_watches 97 = .ok (.if_icmp .ne 8, 3) := by decide +kernel
theorem dX10_watches_100 : decode cX10_watches 100 = .ok (.iload 4, 2) := by decide +kernel
theorem dX10_watches_102 : decode cX10_watches 102 = .ok (.goto 9, 3) := by decide +kernel
theorem dX10_watches_105 : decode cX10_watches 105 = .ok (.aload_n 0, 1) := by decide +kernel
theorem dX10_watches_106 : decode cX10_watches 106 = .ok (.getfield 103, 3) := by decide +kernel
theorem dX10_watches_109 : decode cX10_watches 109 = .ok (.iload_n 3, 1) := by decide +kernel
theorem dX10_watches_110 : decode cX10_watches 110 = .ok (.iaload, 1) := by decide +kernel
theorem dX10_watches_111 : decode cX10_watches 111 = .ok (.ireturn, 1) := by decide +kernel
theorem dX10_way_0 : decode cX10_way 0 = .ok (.aload_n 0, 1) := by decide +kernel
theorem dX10_way_1 : decode cX10_way 1 = .ok (.iload_n 1, 1) := by decide +kernel
theorem dX10_way_2 : decode cX10_way 2 = .ok (.invokevirtual 128, 3) := by decide +kernel
theorem dX10_way_5 : decode cX10_way 5 = .ok (.ifCond .eq 27, 3) := by decide +kernel
theorem dX10_way_8 : decode cX10_way 8 = .ok (.aload_n 0, 1) := by decide +kernel
theorem dX10_way_9 : decode cX10_way 9 = .ok (.iload_n 2, 1) := by decide +kernel
theorem dX10_way_10 : decode cX10_way 10 = .ok (.invokevirtual 128, 3) := by decide +kernel
theorem dX10_way_13 : decode cX10_way 13 = .ok (.ifCond .eq 19, 3) := by decide +kernel
theorem dX10_way_16 : decode cX10_way 16 = .ok (.iload_n 3, 1) := by decide +kernel
theorem dX10_way_17 : decode cX10_way 17 = .ok (.iconst 0, 1) := by decide +kernel
theorem dX10_way_18 : decode cX10_way 18 = .ok (.bipush 15, 2) := by decide +kernel
theorem dX10_way_20 : decode cX10_way 20 = .ok (.invokestatic 112, 3) := by decide +kernel
theorem dX10_way_23 : decode cX10_way 23 = .ok (.ifCond .ne 11, 3) := by decide +kernel
theorem dX10_way_26 : decode cX10_way 26 = .ok (.iload_n 3, 1) := by decide +kernel
theorem dX10_way_27 : decode cX10_way 27 = .ok (.bipush 100, 2) := by decide +kernel
theorem dX10_way_29 : decode cX10_way 29 = .ok (.if_icmp .eq 5, 3) := by decide +kernel
theorem dX10_way_32 : decode cX10_way 32 = .ok (.iconst (-1), 1) := by decide +kernel
theorem dX10_way_33 : decode cX10_way 33 = .ok (.ireturn, 1) := by decide +kernel
theorem dX10_way_34 : decode cX10_way 34 = .ok (.aload_n 0, 1) := by decide +kernel
theorem dX10_way_35 : decode cX10_way 35 = .ok (.iload_n 2, 1) := by decide +kernel
theorem dX10_way_36 : decode cX10_way 36 = .ok (.invokevirtual 344, 3) := by decide +kernel
theorem dX10_way_39 : decode cX10_way 39 = .ok (.aload_n 0, 1) := by decide +kernel
theorem dX10_way_40 : decode cX10_way 40 = .ok (.getfield 97, 3) := by decide +kernel
theorem dX10_way_43 : decode cX10_way 43 = .ok (.iload_n 1, 1) := by decide +kernel
theorem dX10_way_44 : decode cX10_way 44 = .ok (.iaload, 1) := by decide +kernel
theorem dX10_way_45 : decode cX10_way 45 = .ok (.istore 4, 2) := by decide +kernel
theorem dX10_way_47 : decode cX10_way 47 = .ok (.iload 4, 2) := by decide +kernel
theorem dX10_way_49 : decode cX10_way 49 = .ok (.iconst (-1), 1) := by decide +kernel
