theorem dX9_judgesFor_22 : decode cX9_judgesFor 22 = .ok (.iadd, 1) := by decide +kernel
theorem dX9_judgesFor_23 : decode cX9_judgesFor 23 = .ok (.invokestatic 188, 3) := by decide +kernel
theorem dX9_judgesFor_26 : decode cX9_judgesFor 26 = .ok (.aload_n 0, 1) := by decide +kernel
theorem dX9_judgesFor_27 : decode cX9_judgesFor 27 = .ok (.getfield 63, 3) := by decide +kernel
theorem dX9_judgesFor_30 : decode cX9_judgesFor 30 = .ok (.iload 5, 2) := by decide +kernel
theorem dX9_judgesFor_32 : decode cX9_judgesFor 32 = .ok (.bipush 6, 2) := by decide +kernel
theorem dX9_judgesFor_34 : decode cX9_judgesFor 34 = .ok (.imul, 1) := by decide +kernel
theorem dX9_judgesFor_35 : decode cX9_judgesFor 35 = .ok (.iload_n 2, 1) := by decide +kernel
theorem dX9_judgesFor_36 : decode cX9_judgesFor 36 = .ok (.iadd, 1) := by decide +kernel
theorem dX9_judgesFor_37 : decode cX9_judgesFor 37 = .ok (.invokestatic 188, 3) := by decide +kernel
theorem dX9_judgesFor_40 : decode cX9_judgesFor 40 = .ok (.if_icmp .ge 6, 3) := by decide +kernel
theorem dX9_judgesFor_43 : decode cX9_judgesFor 43 = .ok (.iinc 4 1, 3) := by decide +kernel
theorem dX9_judgesFor_46 : decode cX9_judgesFor 46 = .ok (.iinc 5 1, 3) := by decide +kernel
theorem dX9_judgesFor_49 : decode cX9_judgesFor 49 = .ok (.goto (-43), 3) := by decide +kernel
theorem dX9_judgesFor_52 : decode cX9_judgesFor 52 = .ok (.iload 4, 2) := by decide +kernel
theorem dX9_judgesFor_54 : decode cX9_judgesFor 54 = .ok (.ireturn, 1) := by decide +kernel
theorem dX9_beatsAllOthers_0 : decode cX9_beatsAllOthers 0 = .ok (.iconst 0, 1) := by decide +kernel
theorem dX9_beatsAllOthers_1 : decode cX9_beatsAllOthers 1 = .ok (.istore_n 3, 1) := by decide +kernel
theorem dX9_beatsAllOthers_2 : decode cX9_beatsAllOthers 2 = .ok (.iload_n 3, 1) := by decide +kernel
theorem dX9_beatsAllOthers_3 : decode cX9_beatsAllOthers 3 = .ok (.iload_n 1, 1) := by decide +kernel
theorem dX9_beatsAllOthers_4 : decode cX9_beatsAllOthers 4 = .ok (.if_icmp .ge 60, 3) := by decide +kernel
theorem dX9_beatsAllOthers_7 : decode cX9_beatsAllOthers 7 = .ok (.iconst 0, 1) := by decide +kernel
theorem dX9_beatsAllOthers_8 : decode cX9_beatsAllOthers 8 = .ok (.istore 4, 2) := by decide +kernel
theorem dX9_beatsAllOthers_10 : decode cX9_beatsAllOthers 10 = .ok (.iconst 0, 1) := by decide +kernel
theorem dX9_beatsAllOthers_11 : decode cX9_beatsAllOthers 11 = .ok (.istore 5, 2) := by decide +kernel
theorem dX9_beatsAllOthers_13 : decode cX9_beatsAllOthers 13 = .ok (.iload 5, 2) := by decide +kernel
theorem dX9_beatsAllOthers_15 : decode cX9_beatsAllOthers 15 = .ok (.iload_n 1, 1) := by decide +kernel
theorem dX9_beatsAllOthers_16 : decode cX9_beatsAllOthers 16 = .ok (.if_icmp .ge 32, 3) := by decide +kernel
theorem dX9_beatsAllOthers_19 : decode cX9_beatsAllOthers 19 = .ok (.iload_n 3, 1) := by decide +kernel
theorem dX9_beatsAllOthers_20 : decode cX9_beatsAllOthers 20 = .ok (.iload 5, 2) := by decide +kernel
theorem dX9_beatsAllOthers_22 : decode cX9_beatsAllOthers 22 = .ok (.if_icmp .eq 20, 3) := by decide +kernel
theorem dX9_beatsAllOthers_25 : decode cX9_beatsAllOthers 25 = .ok (.iconst 2, 1) := by decide +kernel
theorem dX9_beatsAllOthers_26 : decode cX9_beatsAllOthers 26 = .ok (.aload_n 0, 1) := by decide +kernel
theorem dX9_beatsAllOthers_27 : decode cX9_beatsAllOthers 27 = .ok (.iload_n 3, 1) := by decide +kernel
theorem dX9_beatsAllOthers_28 : decode cX9_beatsAllOthers 28 = .ok (.iload 5, 2) := by decide +kernel
theorem dX9_beatsAllOthers_30 : decode cX9_beatsAllOthers 30 = .ok (.iload_n 2, 1) := by decide +kernel
theorem dX9_beatsAllOthers_31 : decode cX9_beatsAllOthers 31 = .ok (.invokevirtual 293, 3) := by decide +kernel
theorem dX9_beatsAllOthers_34 : decode cX9_beatsAllOthers 34 = .ok (.imul, 1) := by decide +kernel
theorem dX9_beatsAllOthers_35 : decode cX9_beatsAllOthers 35 = .ok (.iload_n 2, 1) := by decide +kernel
theorem dX9_beatsAllOthers_36 : decode cX9_beatsAllOthers 36 = .ok (.if_icmp .le 6, 3) := by decide +kernel
theorem dX9_beatsAllOthers_39 : decode cX9_beatsAllOthers 39 = .ok (.iinc 4 1, 3) := by decide +kernel
theorem dX9_beatsAllOthers_42 : decode cX9_beatsAllOthers 42 = .ok (.iinc 5 1, 3) := by decide +kernel
theorem dX9_beatsAllOthers_45 : decode cX9_beatsAllOthers 45 = .ok (.goto (-32), 3) := by decide +kernel
theorem dX9_beatsAllOthers_48 : decode cX9_beatsAllOthers 48 = .ok (.iload 4, 2) := by decide +kernel
theorem dX9_beatsAllOthers_50 : decode cX9_beatsAllOthers 50 = .ok (.iload_n 1, 1) := by decide +kernel
theorem dX9_beatsAllOthers_51 : decode cX9_beatsAllOthers 51 = .ok (.iconst 1, 1) := by decide +kernel
theorem dX9_beatsAllOthers_52 : decode cX9_beatsAllOthers 52 = .ok (.isub, 1) := by decide +kernel
theorem dX9_beatsAllOthers_53 : decode cX9_beatsAllOthers 53 = .ok (.if_icmp .ne 5, 3) := by decide +kernel
theorem dX9_beatsAllOthers_56 : decode cX9_beatsAllOthers 56 = .ok (.iload_n 3, 1) := by decide +kernel
theorem dX9_beatsAllOthers_57 : decode cX9_beatsAllOthers 57 = .ok (.ireturn, 1) := by decide +kernel
theorem dX9_beatsAllOthers_58 : decode cX9_beatsAllOthers 58 = .ok (.iinc 3 1, 3) := by decide +kernel
theorem dX9_beatsAllOthers_61 : decode cX9_beatsAllOthers 61 = .ok (.goto (-59), 3) := by decide +kernel
theorem dX9_beatsAllOthers_64 : decode cX9_beatsAllOthers 64 = .ok (.bipush (-2), 2) := by decide +kernel
theorem dX9_beatsAllOthers_66 : decode cX9_beatsAllOthers 66 = .ok (.ireturn, 1) := by decide +kernel
theorem dX9_fewestPlaces_0 : decode cX9_fewestPlaces 0 = .ok (.iconst (-1), 1) := by decide +kernel
theorem dX9_fewestPlaces_1 : decode cX9_fewestPlaces 1 = .ok (.istore_n 3, 1) := by decide +kernel
theorem dX9_fewestPlaces_2 : decode cX9_fewestPlaces 2 = .ok (.iconst 0, 1) := by decide +kernel
theorem dX9_fewestPlaces_3 : decode cX9_fewestPlaces 3 = .ok (.istore 4, 2) := by decide +kernel
theorem dX9_fewestPlaces_5 : decode cX9_fewestPlaces 5 = .ok (.iconst 0, 1) := by decide +kernel
theorem dX9_fewestPlaces_6 : decode cX9_fewestPlaces 6 = .ok (.istore 5, 2) := by decide +kernel
theorem dX9_fewestPlaces_8 : decode cX9_fewestPlaces 8 = .ok (.iload 5, 2) := by decide +kernel
theorem dX9_fewestPlaces_10 : decode cX9_fewestPlaces 10 = .ok (.iload_n 1, 1) := by decide +kernel
theorem dX9_fewestPlaces_11 : decode cX9_fewestPlaces 11 = .ok (.if_icmp .ge 66, 3) := by decide +kernel
theorem dX9_fewestPlaces_14 : decode cX9_fewestPlaces 14 = .ok (.iconst 0, 1) := by decide +kernel
theorem dX9_fewestPlaces_15 : decode cX9_fewestPlaces 15 = .ok (.istore 6, 2) := by decide +kernel
theorem dX9_fewestPlaces_17 : decode cX9_fewestPlaces 17 = .ok (.iconst 0, 1) := by decide +kernel
theorem dX9_fewestPlaces_18 : decode cX9_fewestPlaces 18 = .ok (.istore 7, 2) := by decide +kernel
theorem dX9_fewestPlaces_20 : decode cX9_fewestPlaces 20 = .ok (.iload 7, 2) := by decide +kernel
theorem dX9_fewestPlaces_22 : decode cX9_fewestPlaces 22 = .ok (.iload_n 2, 1) := by decide +kernel
theorem dX9_fewestPlaces_23 : decode cX9_fewestPlaces 23 = .ok (.if_icmp .ge 29, 3) := by decide +kernel
theorem dX9_fewestPlaces_26 : decode cX9_fewestPlaces 26 = .ok (.iload 6, 2) := by decide +kernel
theorem dX9_fewestPlaces_28 : decode cX9_fewestPlaces 28 = .ok (.aload_n 0, 1) := by decide +kernel
theorem dX9_fewestPlaces_29 : decode cX9_fewestPlaces 29 = .ok (.getfield 63, 3) := by decide +kernel
theorem dX9_fewestPlaces_32 : decode cX9_fewestPlaces 32 = .ok (.iload 7, 2) := by decide +kernel
theorem dX9_fewestPlaces_34 : decode cX9_fewestPlaces 34 = .ok (.bipush 6, 2) := by decide +kernel
theorem dX9_fewestPlaces_36 : decode cX9_fewestPlaces 36 = .ok (.imul, 1) := by decide +kernel
theorem dX9_fewestPlaces_37 : decode cX9_fewestPlaces 37 = .ok (.iload 5, 2) := by decide +kernel
theorem dX9_fewestPlaces_39 : decode cX9_fewestPlaces 39 = .ok (.iadd, 1) := by decide +kernel
theorem dX9_fewestPlaces_40 : decode cX9_fewestPlaces 40 = .ok (.invokestatic 188, 3) := by decide +kernel
theorem dX9_fewestPlaces_43 : decode cX9_fewestPlaces 43 = .ok (.iadd, 1) := by decide +kernel
theorem dX9_fewestPlaces_44 : decode cX9_fewestPlaces 44 = .ok (.istore 6, 2) := by decide +kernel
theorem dX9_fewestPlaces_46 : decode cX9_fewestPlaces 46 = .ok (.iinc 7 1, 3) := by decide +kernel
theorem dX9_fewestPlaces_49 : decode cX9_fewestPlaces 49 = .ok (.goto (-29), 3) := by decide +kernel
theorem dX9_fewestPlaces_52 : decode cX9_fewestPlaces 52 = .ok (.iload_n 3, 1) := by decide +kernel
theorem dX9_fewestPlaces_53 : decode cX9_fewestPlaces 53 = .ok (.iconst (-1), 1) := by decide +kernel
theorem dX9_fewestPlaces_54 : decode cX9_fewestPlaces 54 = .ok (.if_icmp .eq 10, 3) := by decide +kernel
theorem dX9_fewestPlaces_57 : decode cX9_fewestPlaces 57 = .ok (.iload 6, 2) := by decide +kernel
theorem dX9_fewestPlaces_59 : decode cX9_fewestPlaces 59 = .ok (.iload 4, 2) := by decide +kernel
theorem dX9_fewestPlaces_61 : decode cX9_fewestPlaces 61 = .ok (.if_icmp .ge 10, 3) := by decide +kernel
theorem dX9_fewestPlaces_64 : decode cX9_fewestPlaces 64 = .ok (.iload 6, 2) := by decide +kernel
theorem dX9_fewestPlaces_66 : decode cX9_fewestPlaces 66 = .ok (.istore 4, 2) := by decide +kernel
theorem dX9_fewestPlaces_68 : decode cX9_fewestPlaces 68 = .ok (.iload 5, 2) := by decide +kernel
theorem dX9_fewestPlaces_70 : decode cX9_fewestPlaces 70 = .ok (.istore_n 3, 1) := by decide +kernel
theorem dX9_fewestPlaces_71 : decode cX9_fewestPlaces 71 = .ok (.iinc 5 1, 3) := by decide +kernel
theorem dX9_fewestPlaces_74 : decode cX9_fewestPlaces 74 = .ok (.goto (-66), 3) := by decide +kernel
theorem dX9_fewestPlaces_77 : decode cX9_fewestPlaces 77 = .ok (.iload_n 3, 1) := by decide +kernel
theorem dX9_fewestPlaces_78 : decode cX9_fewestPlaces 78 = .ok (.ireturn, 1) := by decide +kernel
theorem dX9_twosAlike_0 : decode cX9_twosAlike 0 = .ok (.iconst 0, 1) := by decide +kernel
theorem dX9_twosAlike_1 : decode cX9_twosAlike 1 = .ok (.istore_n 3, 1) := by decide +kernel
theorem dX9_twosAlike_2 : decode cX9_twosAlike 2 = .ok (.iconst 0, 1) := by decide +kernel
theorem dX9_twosAlike_3 : decode cX9_twosAlike 3 = .ok (.istore 4, 2) := by decide +kernel
theorem dX9_twosAlike_5 : decode cX9_twosAlike 5 = .ok (.iload 4, 2) := by decide +kernel
theorem dX9_twosAlike_7 : decode cX9_twosAlike 7 = .ok (.iload_n 1, 1) := by decide +kernel
theorem dX9_twosAlike_8 : decode cX9_twosAlike 8 = .ok (.if_icmp .ge 45, 3) := by decide +kernel
theorem dX9_twosAlike_11 : decode cX9_twosAlike 11 = .ok (.iload 4, 2) := by decide +kernel
theorem dX9_twosAlike_13 : decode cX9_twosAlike 13 = .ok (.iconst 1, 1) := by decide +kernel
theorem dX9_twosAlike_14 : decode cX9_twosAlike 14 = .ok (.iadd, 1) := by decide +kernel
theorem dX9_twosAlike_15 : decode cX9_twosAlike 15 = .ok (.istore 5, 2) := by decide +kernel
theorem dX9_twosAlike_17 : decode cX9_twosAlike 17 = .ok (.iload 5, 2) := by decide +kernel
theorem dX9_twosAlike_19 : decode cX9_twosAlike 19 = .ok (.iload_n 1, 1) := by decide +kernel
theorem dX9_twosAlike_20 : decode cX9_twosAlike 20 = .ok (.if_icmp .ge 27, 3) := by decide +kernel
theorem dX9_twosAlike_23 : decode cX9_twosAlike 23 = .ok (.iconst 2, 1) := by decide +kernel
theorem dX9_twosAlike_24 : decode cX9_twosAlike 24 = .ok (.aload_n 0, 1) := by decide +kernel
theorem dX9_twosAlike_25 : decode cX9_twosAlike 25 = .ok (.iload 4, 2) := by decide +kernel
theorem dX9_twosAlike_27 : decode cX9_twosAlike 27 = .ok (.iload 5, 2) := by decide +kernel
theorem dX9_twosAlike_29 : decode cX9_twosAlike 29 = .ok (.iload_n 2, 1) := by decide +kernel
theorem dX9_twosAlike_30 : decode cX9_twosAlike 30 = .ok (.invokevirtual 293, 3) := by decide +kernel
theorem dX9_twosAlike_33 : decode cX9_twosAlike 33 = .ok (.imul, 1) := by decide +kernel
theorem dX9_twosAlike_34 : decode cX9_twosAlike 34 = .ok (.iload_n 2, 1) := by decide +kernel
theorem dX9_twosAlike_35 : decode cX9_twosAlike 35 = .ok (.if_icmp .ne 6, 3) := by decide +kernel
theorem dX9_twosAlike_38 : decode cX9_twosAlike 38 = .ok (.iinc 3 1, 3) := by decide +kernel
theorem dX9_twosAlike_41 : decode cX9_twosAlike 41 = .ok (.iinc 5 1, 3) := by decide +kernel
theorem dX9_twosAlike_44 : decode cX9_twosAlike 44 = .ok (.goto (-27), 3) := by decide +kernel
theorem dX9_twosAlike_47 : decode cX9_twosAlike 47 = .ok (.iinc 4 1, 3) := by decide +kernel
theorem dX9_twosAlike_50 : decode cX9_twosAlike 50 = .ok (.goto (-45), 3) := by decide +kernel
theorem dX9_twosAlike_53 : decode cX9_twosAlike 53 = .ok (.iload_n 3, 1) := by decide +kernel
theorem dX9_twosAlike_54 : decode cX9_twosAlike 54 = .ok (.ireturn, 1) := by decide +kernel
theorem dX9_likely_0 : decode cX9_likely 0 = .ok (.iload_n 1, 1) := by decide +kernel
theorem dX9_likely_1 : decode cX9_likely 1 = .ok (.iconst 1, 1) := by decide +kernel
theorem dX9_likely_2 : decode cX9_likely 2 = .ok (.bipush 16, 2) := by decide +kernel
theorem dX9_likely_4 : decode cX9_likely 4 = .ok (.invokestatic 90, 3) := by decide +kernel
theorem dX9_likely_7 : decode cX9_likely 7 = .ok (.ifCond .eq 25, 3) := by decide +kernel
theorem dX9_likely_10 : decode cX9_likely 10 = .ok (.iload_n 2, 1) := by decide +kernel
theorem dX9_likely_11 : decode cX9_likely 11 = .ok (.iconst 0, 1) := by decide +kernel
theorem dX9_likely_12 : decode cX9_likely 12 = .ok (.iconst 2, 1) := by decide +kernel
theorem dX9_likely_13 : decode cX9_likely 13 = .ok (.invokestatic 90, 3) := by decide +kernel
theorem dX9_likely_16 : decode cX9_likely 16 = .ok (.ifCond .eq 16, 3) := by decide +kernel
theorem dX9_likely_19 : decode cX9_likely 19 = .ok (.aload_n 0, 1) := by decide +kernel
theorem dX9_likely_20 : decode cX9_likely 20 = .ok (.getfield 10, 3) := by decide +kernel
theorem dX9_likely_23 : decode cX9_likely 23 = .ok (.iconst 2, 1) := by decide +kernel
theorem dX9_likely_24 : decode cX9_likely 24 = .ok (.iload_n 1, 1) := by decide +kernel
theorem dX9_likely_25 : decode cX9_likely 25 = .ok (.imul, 1) := by decide +kernel
theorem dX9_likely_26 : decode cX9_likely 26 = .ok (.invokevirtual 132, 3) := by decide +kernel
theorem dX9_likely_29 : decode cX9_likely 29 = .ok (.ifCond .ne 5, 3) := by decide +kernel
theorem dX9_likely_32 : decode cX9_likely 32 = .ok (.iconst (-1), 1) := by decide +kernel
theorem dX9_likely_33 : decode cX9_likely 33 = .ok (.ireturn, 1) := by decide +kernel
theorem dX9_likely_34 : decode cX9_likely 34 = .ok (.aload_n 0, 1) := by decide +kernel
theorem dX9_likely_35 : decode cX9_likely 35 = .ok (.getfield 10, 3) := by decide +kernel
theorem dX9_likely_38 : decode cX9_likely 38 = .ok (.iconst 2, 1) := by decide +kernel
theorem dX9_likely_39 : decode cX9_likely 39 = .ok (.iload_n 1, 1) := by decide +kernel
theorem dX9_likely_40 : decode cX9_likely 40 = .ok (.imul, 1) := by decide +kernel
theorem dX9_likely_41 : decode cX9_likely 41 = .ok (.invokevirtual 135, 3) := by decide +kernel
theorem dX9_likely_44 : decode cX9_likely 44 = .ok (.iconst 0, 1) := by decide +kernel
theorem dX9_likely_45 : decode cX9_likely 45 = .ok (.istore_n 3, 1) := by decide +kernel
theorem dX9_likely_46 : decode cX9_likely 46 = .ok (.iconst (-1), 1) := by decide +kernel
theorem dX9_likely_47 : decode cX9_likely 47 = .ok (.istore 4, 2) := by decide +kernel
theorem dX9_likely_49 : decode cX9_likely 49 = .ok (.iconst 0, 1) := by decide +kernel
theorem dX9_likely_50 : decode cX9_likely 50 = .ok (.istore 5, 2) := by decide +kernel
theorem dX9_likely_52 : decode cX9_likely 52 = .ok (.iconst 0, 1) := by decide +kernel
theorem dX9_likely_53 : decode cX9_likely 53 = .ok (.istore 6, 2) := by decide +kernel
theorem dX9_likely_55 : decode cX9_likely 55 = .ok (.iload 6, 2) := by decide +kernel
theorem dX9_likely_57 : decode cX9_likely 57 = .ok (.iload_n 1, 1) := by decide +kernel
theorem dX9_likely_58 : decode cX9_likely 58 = .ok (.if_icmp .ge 68, 3) := by decide +kernel
theorem dX9_likely_61 : decode cX9_likely 61 = .ok (.aload_n 0, 1) := by decide +kernel
theorem dX9_likely_62 : decode cX9_likely 62 = .ok (.getfield 10, 3) := by decide +kernel
theorem dX9_likely_65 : decode cX9_likely 65 = .ok (.iconst 2, 1) := by decide +kernel
theorem dX9_likely_66 : decode cX9_likely 66 = .ok (.iload 6, 2) := by decide +kernel
theorem dX9_likely_68 : decode cX9_likely 68 = .ok (.imul, 1) := by decide +kernel
theorem dX9_likely_69 : decode cX9_likely 69 = .ok (.invokevirtual 224, 3) := by decide +kernel
theorem dX9_likely_72 : decode cX9_likely 72 = .ok (.aload_n 0, 1) := by decide +kernel
theorem dX9_likely_73 : decode cX9_likely 73 = .ok (.getfield 10, 3) := by decide +kernel
theorem dX9_likely_76 : decode cX9_likely 76 = .ok (.iconst 2, 1) := by decide +kernel
theorem dX9_likely_77 : decode cX9_likely 77 = .ok (.iload 6, 2) := by decide +kernel
theorem dX9_likely_79 : decode cX9_likely 79 = .ok (.imul, 1) := by decide +kernel
theorem dX9_likely_80 : decode cX9_likely 80 = .ok (.iconst 1, 1) := by decide +kernel
theorem dX9_likely_81 : decode cX9_likely 81 = .ok (.iadd, 1) := by decide +kernel
theorem dX9_likely_82 : decode cX9_likely 82 = .ok (.invokevirtual 224, 3) := by decide +kernel
theorem dX9_likely_85 : decode cX9_likely 85 = .ok (.imul, 1) := by decide +kernel
theorem dX9_likely_86 : decode cX9_likely 86 = .ok (.istore 7, 2) := by decide +kernel
theorem dX9_likely_88 : decode cX9_likely 88 = .ok (.iload 7, 2) := by decide +kernel
theorem dX9_likely_90 : decode cX9_likely 90 = .ok (.iload 4, 2) := by decide +kernel
theorem dX9_likely_92 : decode cX9_likely 92 = .ok (.if_icmp .le 11, 3) := by decide +kernel
theorem dX9_likely_95 : decode cX9_likely 95 = .ok (.iload 7, 2) := by decide +kernel
theorem dX9_likely_97 : decode cX9_likely 97 = .ok (.istore 4, 2) := by decide +kernel
theorem dX9_likely_99 : decode cX9_likely 99 = .ok (.iload 6, 2) := by decide +kernel
theorem dX9_likely_101 : decode cX9_likely 101 = .ok (.istore 5, 2) := by decide +kernel
theorem dX9_likely_103 : decode cX9_likely 103 = .ok (.aload_n 0, 1) := by decide +kernel
theorem dX9_likely_104 : decode cX9_likely 104 = .ok (.iload 6, 2) := by decide +kernel
theorem dX9_likely_106 : decode cX9_likely 106 = .ok (.iload_n 1, 1) := by decide +kernel
theorem dX9_likely_107 : decode cX9_likely 107 = .ok (.invokevirtual 297, 3) := by decide +kernel
theorem dX9_likely_110 : decode cX9_likely 110 = .ok (.ifCond .ne 10, 3) := by decide +kernel
theorem dX9_likely_113 : decode cX9_likely 113 = .ok (.iload_n 3, 1) := by decide +kernel
theorem dX9_likely_114 : decode cX9_likely 114 = .ok (.iconst 1, 1) := by decide +kernel
theorem dX9_likely_115 : decode cX9_likely 115 = .ok (.iload 6, 2) := by decide +kernel
theorem dX9_likely_117 : decode cX9_likely 117 = .ok (.ishl, 1) := by decide +kernel
theorem dX9_likely_118 : decode cX9_likely 118 = .ok (.ior, 1) := by decide +kernel
theorem dX9_likely_119 : decode cX9_likely 119 = .ok (.istore_n 3, 1) := by decide +kernel
theorem dX9_likely_120 : decode cX9_likely 120 = .ok (.iinc 6 1, 3) := by decide +kernel
theorem dX9_likely_123 : decode cX9_likely 123 = .ok (.goto (-68), 3) := by decide +kernel
theorem dX9_likely_126 : decode cX9_likely 126 = .ok (.iload_n 2, 1) := by decide +kernel
theorem dX9_likely_127 : decode cX9_likely 127 = .ok (.ifCond .ne 5, 3) := by decide +kernel
theorem dX9_likely_130 : decode cX9_likely 130 = .ok (.iload_n 3, 1) := by decide +kernel
theorem dX9_likely_131 : decode cX9_likely 131 = .ok (.ireturn, 1) := by decide +kernel
theorem dX9_likely_132 : decode cX9_likely 132 = .ok (.iload_n 2, 1) := by decide +kernel
theorem dX9_likely_133 : decode cX9_likely 133 = .ok (.iconst 1, 1) := by decide +kernel
theorem dX9_likely_134 : decode cX9_likely 134 = .ok (.if_icmp .ne 8, 3) := by decide +kernel
theorem dX9_likely_137 : decode cX9_likely 137 = .ok (.iload 4, 2) := by decide +kernel
theorem dX9_likely_139 : decode cX9_likely 139 = .ok (.goto 5, 3) := by decide +kernel
theorem dX9_likely_142 : decode cX9_likely 142 = .ok (.iload 5, 2) := by decide +kernel
theorem dX9_likely_144 : decode cX9_likely 144 = .ok (.ireturn, 1) := by decide +kernel
theorem dX9_isBeaten_0 : decode cX9_isBeaten 0 = .ok (.aload_n 0, 1) := by decide +kernel
theorem dX9_isBeaten_1 : decode cX9_isBeaten 1 = .ok (.getfield 10, 3) := by decide +kernel
theorem dX9_isBeaten_4 : decode cX9_isBeaten 4 = .ok (.iconst 2, 1) := by decide +kernel
theorem dX9_isBeaten_5 : decode cX9_isBeaten 5 = .ok (.iload_n 1, 1) := by decide +kernel
theorem dX9_isBeaten_6 : decode cX9_isBeaten 6 = .ok (.imul, 1) := by decide +kernel
theorem dX9_isBeaten_7 : decode cX9_isBeaten 7 = .ok (.invokevirtual 224, 3) := by decide +kernel
theorem dX9_isBeaten_10 : decode cX9_isBeaten 10 = .ok (.istore_n 3, 1) := by decide +kernel
theorem dX9_isBeaten_11 : decode cX9_isBeaten 11 = .ok (.aload_n 0, 1) := by decide +kernel
theorem dX9_isBeaten_12 : decode cX9_isBeaten 12 = .ok (.getfield 10, 3) := by decide +kernel
theorem dX9_isBeaten_15 : decode cX9_isBeaten 15 = .ok (.iconst 2, 1) := by decide +kernel
theorem dX9_isBeaten_16 : decode cX9_isBeaten 16 = .ok (.iload_n 1, 1) := by decide +kernel
theorem dX9_isBeaten_17 : decode cX9_isBeaten 17 = .ok (.imul, 1) := by decide +kernel
theorem dX9_isBeaten_18 : decode cX9_isBeaten 18 = .ok (.iconst 1, 1) := by decide +kernel
theorem dX9_isBeaten_19 : decode cX9_isBeaten 19 = .ok (.iadd, 1) := by decide +kernel
theorem dX9_isBeaten_20 : decode cX9_isBeaten 20 = .ok (.invokevirtual 224, 3) := by decide +kernel
theorem dX9_isBeaten_23 : decode cX9_isBeaten 23 = .ok (.istore 4, 2) := by decide +kernel
theorem dX9_isBeaten_25 : decode cX9_isBeaten 25 = .ok (.iconst 0, 1) := by decide +kernel
theorem dX9_isBeaten_26 : decode cX9_isBeaten 26 = .ok (.istore 5, 2) := by decide +kernel
theorem dX9_isBeaten_28 : decode cX9_isBeaten 28 = .ok (.iload 5, 2) := by decide +kernel
theorem dX9_isBeaten_30 : decode cX9_isBeaten 30 = .ok (.iload_n 2, 1) := by decide +kernel
theorem dX9_isBeaten_31 : decode cX9_isBeaten 31 = .ok (.if_icmp .ge 62, 3) := by decide +kernel
theorem dX9_isBeaten_34 : decode cX9_isBeaten 34 = .ok (.aload_n 0, 1) := by decide +kernel
theorem dX9_isBeaten_35 : decode cX9_isBeaten 35 = .ok (.getfield 10, 3) := by decide +kernel
theorem dX9_isBeaten_38 : decode cX9_isBeaten 38 = .ok (.iconst 2, 1) := by decide +kernel
theorem dX9_isBeaten_39 : decode cX9_isBeaten 39 = .ok (.iload 5, 2) := by decide +kernel
theorem dX9_isBeaten_41 : decode cX9_isBeaten 41 = .ok (.imul, 1) := by decide +kernel
theorem dX9_isBeaten_42 : decode cX9_isBeaten 42 = .ok (.invokevirtual 224, 3) := by decide +kernel
theorem dX9_isBeaten_45 : decode cX9_isBeaten 45 = .ok (.iload_n 3, 1) := by decide +kernel
theorem dX9_isBeaten_46 : decode cX9_isBeaten 46 = .ok (.isub, 1) := by decide +kernel
theorem dX9_isBeaten_47 : decode cX9_isBeaten 47 = .ok (.istore 6, 2) := by decide +kernel
theorem dX9_isBeaten_49 : decode cX9_isBeaten 49 = .ok (.aload_n 0, 1) := by decide +kernel
theorem dX9_isBeaten_50 : decode cX9_isBeaten 50 = .ok (.getfield 10, 3) := by decide +kernel
theorem dX9_isBeaten_53 : decode cX9_isBeaten 53 = .ok (.iconst 2, 1) := by decide +kernel
theorem dX9_isBeaten_54 : decode cX9_isBeaten 54 = .ok (.iload 5, 2) := by decide +kernel
theorem dX9_isBeaten_56 : decode cX9_isBeaten 56 = .ok (.imul, 1) := by decide +kernel
theorem dX9_isBeaten_57 : decode cX9_isBeaten 57 = .ok (.iconst 1, 1) := by decide +kernel
theorem dX9_isBeaten_58 : decode cX9_isBeaten 58 = .ok (.iadd, 1) := by decide +kernel
theorem dX9_isBeaten_59 : decode cX9_isBeaten 59 = .ok (.invokevirtual 224, 3) := by decide +kernel
theorem dX9_isBeaten_62 : decode cX9_isBeaten 62 = .ok (.iload 4, 2) := by decide +kernel
theorem dX9_isBeaten_64 : decode cX9_isBeaten 64 = .ok (.isub, 1) := by decide +kernel
theorem dX9_isBeaten_65 : decode cX9_isBeaten 65 = .ok (.istore 7, 2) := by decide +kernel
theorem dX9_isBeaten_67 : decode cX9_isBeaten 67 = .ok (.iload 6, 2) := by decide +kernel
theorem dX9_isBeaten_69 : decode cX9_isBeaten 69 = .ok (.ifCond .lt 18, 3) := by decide +kernel
theorem dX9_isBeaten_72 : decode cX9_isBeaten 72 = .ok (.iload 7, 2) := by decide +kernel
theorem dX9_isBeaten_74 : decode cX9_isBeaten 74 = .ok (.ifCond .lt 13, 3) := by decide +kernel
theorem dX9_isBeaten_77 : decode cX9_isBeaten 77 = .ok (.iload 6, 2) := by decide +kernel
theorem dX9_isBeaten_79 : decode cX9_isBeaten 79 = .ok (.iload 7, 2) := by decide +kernel
theorem dX9_isBeaten_81 : decode cX9_isBeaten 81 = .ok (.iadd, 1) := by decide +kernel
theorem dX9_isBeaten_82 : decode cX9_isBeaten 82 = .ok (.ifCond .le 5, 3) := by decide +kernel
theorem dX9_isBeaten_85 : decode cX9_isBeaten 85 = .ok (.iconst 1, 1) := by decide +kernel
theorem dX9_isBeaten_86 : decode cX9_isBeaten 86 = .ok (.ireturn, 1) := by decide +kernel
theorem dX9_isBeaten_87 : decode cX9_isBeaten 87 = .ok (.iinc 5 1, 3) := by decide +kernel
theorem dX9_isBeaten_90 : decode cX9_isBeaten 90 = .ok (.goto (-62), 3) := by decide +kernel
theorem dX9_isBeaten_93 : decode cX9_isBeaten 93 = .ok (.iconst 0, 1) := by decide +kernel
theorem dX9_isBeaten_94 : decode cX9_isBeaten 94 = .ok (.ireturn, 1) := by decide +kernel
theorem dX9_share_0 : decode cX9_share 0 = .ok (.iload_n 1, 1) := by decide +kernel
theorem dX9_share_1 : decode cX9_share 1 = .ok (.iconst 1, 1) := by decide +kernel
theorem dX9_share_2 : decode cX9_share 2 = .ok (.bipush 12, 2) := by decide +kernel
theorem dX9_share_4 : decode cX9_share 4 = .ok (.invokestatic 90, 3) := by decide +kernel
theorem dX9_share_7 : decode cX9_share 7 = .ok (.ifCond .eq 26, 3) := by decide +kernel
theorem dX9_share_10 : decode cX9_share 10 = .ok (.iload_n 2, 1) := by decide +kernel
theorem dX9_share_11 : decode cX9_share 11 = .ok (.iconst 0, 1) := by decide +kernel
theorem dX9_share_12 : decode cX9_share 12 = .ok (.bipush 7, 2) := by decide +kernel
theorem dX9_share_14 : decode cX9_share 14 = .ok (.invokestatic 90, 3) := by decide +kernel
theorem dX9_share_17 : decode cX9_share 17 = .ok (.ifCond .eq 16, 3) := by decide +kernel
theorem dX9_share_20 : decode cX9_share 20 = .ok (.aload_n 0, 1) := by decide +kernel
theorem dX9_share_21 : decode cX9_share 21 = .ok (.getfield 10, 3) := by decide +kernel
theorem dX9_share_24 : decode cX9_share 24 = .ok (.iconst 2, 1) := by decide +kernel
theorem dX9_share_25 : decode cX9_share 25 = .ok (.iload_n 1, 1) := by decide +kernel
theorem dX9_share_26 : decode cX9_share 26 = .ok (.imul, 1) := by decide +kernel
theorem dX9_share_27 : decode cX9_share 27 = .ok (.invokevirtual 132, 3) := by decide +kernel
theorem dX9_share_30 : decode cX9_share 30 = .ok (.ifCond .ne 5, 3) := by decide +kernel
theorem dX9_share_33 : decode cX9_share 33 = .ok (.iconst (-1), 1) := by decide +kernel
theorem dX9_share_34 : decode cX9_share 34 = .ok (.ireturn, 1) := by decide +kernel
theorem dX9_share_35 : decode cX9_share 35 = .ok (.aload_n 0, 1) := by decide +kernel
theorem dX9_share_36 : decode cX9_share 36 = .ok (.getfield 10, 3) := by decide +kernel
theorem dX9_share_39 : decode cX9_share 39 = .ok (.iconst 2, 1) := by decide +kernel
theorem dX9_share_40 : decode cX9_share 40 = .ok (.iload_n 1, 1) := by decide +kernel
theorem dX9_share_41 : decode cX9_share 41 = .ok (.imul, 1) := by decide +kernel
theorem dX9_share_42 : decode cX9_share 42 = .ok (.invokevirtual 135, 3) := by decide +kernel
theorem dX9_share_45 : decode cX9_share 45 = .ok (.iconst 0, 1) := by decide +kernel
theorem dX9_share_46 : decode cX9_share 46 = .ok (.istore_n 3, 1) := by decide +kernel
theorem dX9_share_47 : decode cX9_share 47 = .ok (.iconst 0, 1) := by decide +kernel
theorem dX9_share_48 : decode cX9_share 48 = .ok (.istore 4, 2) := by decide +kernel
theorem dX9_share_50 : decode cX9_share 50 = .ok (.iload 4, 2) := by decide +kernel
theorem dX9_share_52 : decode cX9_share 52 = .ok (.iload_n 1, 1) := by decide +kernel
theorem dX9_share_53 : decode cX9_share 53 = .ok (.if_icmp .ge 95, 3) := by decide +kernel
theorem dX9_share_56 : decode cX9_share 56 = .ok (.aload_n 0, 1) := by decide +kernel
theorem dX9_share_57 : decode cX9_share 57 = .ok (.getfield 10, 3) := by decide +kernel
theorem dX9_share_60 : decode cX9_share 60 = .ok (.iconst 2, 1) := by decide +kernel
theorem dX9_share_61 : decode cX9_share 61 = .ok (.iload 4, 2) := by decide +kernel
theorem dX9_share_63 : decode cX9_share 63 = .ok (.imul, 1) := by decide +kernel
theorem dX9_share_64 : decode cX9_share 64 = .ok (.invokevirtual 224, 3) := by decide +kernel
theorem dX9_share_67 : decode cX9_share 67 = .ok (.istore 5, 2) := by decide +kernel
theorem dX9_share_69 : decode cX9_share 69 = .ok (.aload_n 0, 1) := by decide +kernel
theorem dX9_share_70 : decode cX9_share 70 = .ok (.getfield 10, 3) := by decide +kernel
theorem dX9_share_73 : decode cX9_share 73 = .ok (.iconst 2, 1) := by decide +kernel
theorem dX9_share_74 : decode cX9_share 74 = .ok (.iload 4, 2) := by decide +kernel
theorem dX9_share_76 : decode cX9_share 76 = .ok (.imul, 1) := by decide +kernel
theorem dX9_share_77 : decode cX9_share 77 = .ok (.iconst 1, 1) := by decide +kernel
theorem dX9_share_78 : decode cX9_share 78 = .ok (.iadd, 1) := by decide +kernel
theorem dX9_share_79 : decode cX9_share 79 = .ok (.invokevirtual 224, 3) := by decide +kernel
theorem dX9_share_82 : decode cX9_share 82 = .ok (.istore 6, 2) := by decide +kernel
theorem dX9_share_84 : decode cX9_share 84 = .ok (.iload 6, 2) := by decide +kernel
theorem dX9_share_86 : decode cX9_share 86 = .ok (.invokestatic 242, 3) := by decide +kernel
theorem dX9_share_89 : decode cX9_share 89 = .ok (.istore 7, 2) := by decide +kernel
theorem dX9_share_91 : decode cX9_share 91 = .ok (.iload 7, 2) := by decide +kernel
theorem dX9_share_93 : decode cX9_share 93 = .ok (.ifCond .le 49, 3) := by decide +kernel
theorem dX9_share_96 : decode cX9_share 96 = .ok (.iload 6, 2) := by decide +kernel
theorem dX9_share_98 : decode cX9_share 98 = .ok (.iload_n 2, 1) := by decide +kernel
theorem dX9_share_99 : decode cX9_share 99 = .ok (.invokestatic 290, 3) := by decide +kernel
theorem dX9_share_102 : decode cX9_share 102 = .ok (.ifCond .eq 40, 3) := by decide +kernel
theorem dX9_share_105 : decode cX9_share 105 = .ok (.iload 6, 2) := by decide +kernel
theorem dX9_share_107 : decode cX9_share 107 = .ok (.iconst 1, 1) := by decide +kernel
theorem dX9_share_108 : decode cX9_share 108 = .ok (.iload_n 2, 1) := by decide +kernel
theorem dX9_share_109 : decode cX9_share 109 = .ok (.ishl, 1) := by decide +kernel
theorem dX9_share_110 : decode cX9_share 110 = .ok (.iconst 1, 1) := by decide +kernel
theorem dX9_share_111 : decode cX9_share 111 = .ok (.isub, 1) := by decide +kernel
theorem dX9_share_112 : decode cX9_share 112 = .ok (.iand, 1) := by decide +kernel
theorem dX9_share_113 : decode cX9_share 113 = .ok (.invokestatic 242, 3) := by decide +kernel
theorem dX9_share_116 : decode cX9_share 116 = .ok (.istore 8, 2) := by decide +kernel
theorem dX9_share_118 : decode cX9_share 118 = .ok (.iload_n 3, 1) := by decide +kernel
theorem dX9_share_119 : decode cX9_share 119 = .ok (.iload 5, 2) := by decide +kernel
theorem dX9_share_121 : decode cX9_share 121 = .ok (.iload 7, 2) := by decide +kernel
theorem dX9_share_123 : decode cX9_share 123 = .ok (.idiv, 1) := by decide +kernel
theorem dX9_share_124 : decode cX9_share 124 = .ok (.iload 8, 2) := by decide +kernel
theorem dX9_share_126 : decode cX9_share 126 = .ok (.iload 5, 2) := by decide +kernel
theorem dX9_share_128 : decode cX9_share 128 = .ok (.iload 7, 2) := by decide +kernel
theorem dX9_share_130 : decode cX9_share 130 = .ok (.irem, 1) := by decide +kernel
theorem dX9_share_131 : decode cX9_share 131 = .ok (.if_icmp .ge 7, 3) := by decide +kernel
theorem dX9_share_134 : decode cX9_share 134 = .ok (.iconst 1, 1) := by decide +kernel
theorem dX9_share_135 : decode cX9_share 135 = .ok (.goto 4, 3) := by decide +kernel
theorem dX9_share_138 : decode cX9_share 138 = .ok (.iconst 0, 1) := by decide +kernel
theorem dX9_share_139 : decode cX9_share 139 = .ok (.iadd, 1) := by decide +kernel
theorem dX9_share_140 : decode cX9_share 140 = .ok (.iadd, 1) := by decide +kernel
theorem dX9_share_141 : decode cX9_share 141 = .ok (.istore_n 3, 1) := by decide +kernel
theorem dX9_share_142 : decode cX9_share 142 = .ok (.iinc 4 1, 3) := by decide +kernel
theorem dX9_share_145 : decode cX9_share 145 = .ok (.goto (-95), 3) := by decide +kernel
theorem dX9_share_148 : decode cX9_share 148 = .ok (.iload_n 3, 1) := by decide +kernel
theorem dX9_share_149 : decode cX9_share 149 = .ok (.ireturn, 1) := by decide +kernel
theorem dX9_odds_0 : decode cX9_odds 0 = .ok (.iload_n 1, 1) := by decide +kernel
theorem dX9_odds_1 : decode cX9_odds 1 = .ok (.iconst 1, 1) := by decide +kernel
theorem dX9_odds_2 : decode cX9_odds 2 = .ok (.bipush 9, 2) := by decide +kernel
theorem dX9_odds_4 : decode cX9_odds 4 = .ok (.invokestatic 90, 3) := by decide +kernel
theorem dX9_odds_7 : decode cX9_odds 7 = .ok (.ifCond .eq 23, 3) := by decide +kernel
theorem dX9_odds_10 : decode cX9_odds 10 = .ok (.iload_n 2, 1) := by decide +kernel
theorem dX9_odds_11 : decode cX9_odds 11 = .ok (.iconst 0, 1) := by decide +kernel
theorem dX9_odds_12 : decode cX9_odds 12 = .ok (.iconst 5, 1) := by decide +kernel
theorem dX9_odds_13 : decode cX9_odds 13 = .ok (.invokestatic 90, 3) := by decide +kernel
theorem dX9_odds_16 : decode cX9_odds 16 = .ok (.ifCond .eq 14, 3) := by decide +kernel
theorem dX9_odds_19 : decode cX9_odds 19 = .ok (.aload_n 0, 1) := by decide +kernel
theorem dX9_odds_20 : decode cX9_odds 20 = .ok (.getfield 10, 3) := by decide +kernel
theorem dX9_odds_23 : decode cX9_odds 23 = .ok (.iload_n 1, 1) := by decide +kernel
theorem dX9_odds_24 : decode cX9_odds 24 = .ok (.invokevirtual 132, 3) := by decide +kernel
theorem dX9_odds_27 : decode cX9_odds 27 = .ok (.ifCond .ne 5, 3) := by decide +kernel
theorem dX9_odds_30 : decode cX9_odds 30 = .ok (.iconst (-1), 1) := by decide +kernel
theorem dX9_odds_31 : decode cX9_odds 31 = .ok (.ireturn, 1) := by decide +kernel
theorem dX9_odds_32 : decode cX9_odds 32 = .ok (.aload_n 0, 1) := by decide +kernel
theorem dX9_odds_33 : decode cX9_odds 33 = .ok (.getfield 10, 3) := by decide +kernel
theorem dX9_odds_36 : decode cX9_odds 36 = .ok (.iload_n 1, 1) := by decide +kernel
theorem dX9_odds_37 : decode cX9_odds 37 = .ok (.invokevirtual 135, 3) := by decide +kernel
theorem dX9_odds_40 : decode cX9_odds 40 = .ok (.iconst 1, 1) := by decide +kernel
theorem dX9_odds_41 : decode cX9_odds 41 = .ok (.istore_n 3, 1) := by decide +kernel
theorem dX9_odds_42 : decode cX9_odds 42 = .ok (.iconst 1, 1) := by decide +kernel
theorem dX9_odds_43 : decode cX9_odds 43 = .ok (.istore 4, 2) := by decide +kernel
theorem dX9_odds_45 : decode cX9_odds 45 = .ok (.iconst 1, 1) := by decide +kernel
theorem dX9_odds_46 : decode cX9_odds 46 = .ok (.istore 5, 2) := by decide +kernel
theorem dX9_odds_48 : decode cX9_odds 48 = .ok (.iconst 0, 1) := by decide +kernel
theorem dX9_odds_49 : decode cX9_odds 49 = .ok (.istore 6, 2) := by decide +kernel
theorem dX9_odds_51 : decode cX9_odds 51 = .ok (.iload 6, 2) := by decide +kernel
theorem dX9_odds_53 : decode cX9_odds 53 = .ok (.iload_n 1, 1) := by decide +kernel
theorem dX9_odds_54 : decode cX9_odds 54 = .ok (.if_icmp .ge 52, 3) := by decide +kernel
theorem dX9_odds_57 : decode cX9_odds 57 = .ok (.aload_n 0, 1) := by decide +kernel
theorem dX9_odds_58 : decode cX9_odds 58 = .ok (.getfield 10, 3) := by decide +kernel
theorem dX9_odds_61 : decode cX9_odds 61 = .ok (.iload 6, 2) := by decide +kernel
theorem dX9_odds_63 : decode cX9_odds 63 = .ok (.invokevirtual 224, 3) := by decide +kernel
theorem dX9_odds_66 : decode cX9_odds 66 = .ok (.istore 7, 2) := by decide +kernel
theorem dX9_odds_68 : decode cX9_odds 68 = .ok (.iload 7, 2) := by decide +kernel
theorem dX9_odds_70 : decode cX9_odds 70 = .ok (.bipush 10, 2) := by decide +kernel
theorem dX9_odds_72 : decode cX9_odds 72 = .ok (.if_icmp .le 6, 3) := by decide +kernel
theorem dX9_odds_75 : decode cX9_odds 75 = .ok (.bipush (-2), 2) := by decide +kernel
theorem dX9_odds_77 : decode cX9_odds 77 = .ok (.ireturn, 1) := by decide +kernel
theorem dX9_odds_78 : decode cX9_odds 78 = .ok (.iload_n 3, 1) := by decide +kernel
theorem dX9_odds_79 : decode cX9_odds 79 = .ok (.iload 7, 2) := by decide +kernel
theorem dX9_odds_81 : decode cX9_odds 81 = .ok (.imul, 1) := by decide +kernel
theorem dX9_odds_82 : decode cX9_odds 82 = .ok (.istore_n 3, 1) := by decide +kernel
theorem dX9_odds_83 : decode cX9_odds 83 = .ok (.iload 4, 2) := by decide +kernel
theorem dX9_odds_85 : decode cX9_odds 85 = .ok (.bipush 10, 2) := by decide +kernel
theorem dX9_odds_87 : decode cX9_odds 87 = .ok (.iload 7, 2) := by decide +kernel
theorem dX9_odds_89 : decode cX9_odds 89 = .ok (.isub, 1) := by decide +kernel
theorem dX9_odds_90 : decode cX9_odds 90 = .ok (.imul, 1) := by decide +kernel
theorem dX9_odds_91 : decode cX9_odds 91 = .ok (.istore 4, 2) := by decide +kernel
theorem dX9_odds_93 : decode cX9_odds 93 = .ok (.iload 5, 2) := by decide +kernel
theorem dX9_odds_95 : decode cX9_odds 95 = .ok (.bipush 10, 2) := by decide +kernel
theorem dX9_odds_97 : decode cX9_odds 97 = .ok (.imul, 1) := by decide +kernel
theorem dX9_odds_98 : decode cX9_odds 98 = .ok (.istore 5, 2) := by decide +kernel
theorem dX9_odds_100 : decode cX9_odds 100 = .ok (.iinc 6 1, 3) := by decide +kernel
theorem dX9_odds_103 : decode cX9_odds 103 = .ok (.goto (-52), 3) := by decide +kernel
theorem dX9_odds_106 : decode cX9_odds 106 = .ok (.iload 5, 2) := by decide +kernel
theorem dX9_odds_108 : decode cX9_odds 108 = .ok (.iload 4, 2) := by decide +kernel
theorem dX9_odds_110 : decode cX9_odds 110 = .ok (.isub, 1) := by decide +kernel
theorem dX9_odds_111 : decode cX9_odds 111 = .ok (.istore 6, 2) := by decide +kernel
theorem dX9_odds_113 : decode cX9_odds 113 = .ok (.iload_n 2, 1) := by decide +kernel
theorem dX9_odds_114 : decode cX9_odds 114 = .ok (.iconst 4, 1) := by decide +kernel
theorem dX9_odds_115 : decode cX9_odds 115 = .ok (.if_icmp .ge 16, 3) := by decide +kernel
theorem dX9_odds_118 : decode cX9_odds 118 = .ok (.iload_n 2, 1) := by decide +kernel
theorem dX9_odds_119 : decode cX9_odds 119 = .ok (.iconst 2, 1) := by decide +kernel
theorem dX9_odds_120 : decode cX9_odds 120 = .ok (.if_icmp .ge 7, 3) := by decide +kernel
theorem dX9_odds_123 : decode cX9_odds 123 = .ok (.iload_n 3, 1) := by decide +kernel
theorem dX9_odds_124 : decode cX9_odds 124 = .ok (.goto 5, 3) := by decide +kernel
theorem dX9_odds_127 : decode cX9_odds 127 = .ok (.iload 4, 2) := by decide +kernel
theorem dX9_odds_129 : decode cX9_odds 129 = .ok (.istore 6, 2) := by decide +kernel
theorem dX9_odds_131 : decode cX9_odds 131 = .ok (.iload 6, 2) := by decide +kernel
theorem dX9_odds_133 : decode cX9_odds 133 = .ok (.iload 5, 2) := by decide +kernel
theorem dX9_odds_135 : decode cX9_odds 135 = .ok (.invokestatic 300, 3) := by decide +kernel
theorem dX9_odds_138 : decode cX9_odds 138 = .ok (.istore 7, 2) := by decide +kernel
theorem dX9_odds_140 : decode cX9_odds 140 = .ok (.iload_n 2, 1) := by decide +kernel
theorem dX9_odds_141 : decode cX9_odds 141 = .ok (.iconst 2, 1) := by decide +kernel
theorem dX9_odds_142 : decode cX9_odds 142 = .ok (.irem, 1) := by decide +kernel
theorem dX9_odds_143 : decode cX9_odds 143 = .ok (.ifCond .ne 8, 3) := by decide +kernel
theorem dX9_odds_146 : decode cX9_odds 146 = .ok (.iload 6, 2) := by decide +kernel
theorem dX9_odds_148 : decode cX9_odds 148 = .ok (.goto 5, 3) := by decide +kernel
theorem dX9_odds_151 : decode cX9_odds 151 = .ok (.iload 5, 2) := by decide +kernel
theorem dX9_odds_153 : decode cX9_odds 153 = .ok (.iload 7, 2) := by decide +kernel
theorem dX9_odds_155 : decode cX9_odds 155 = .ok (.idiv, 1) := by decide +kernel
theorem dX9_odds_156 : decode cX9_odds 156 = .ok (.ireturn, 1) := by decide +kernel
theorem dX9_commonDivisor_0 : decode cX9_commonDivisor 0 = .ok (.iload_n 0, 1) := by decide +kernel
theorem dX9_commonDivisor_1 : decode cX9_commonDivisor 1 = .ok (.istore_n 2, 1) := by decide +kernel
theorem dX9_commonDivisor_2 : decode cX9_commonDivisor 2 = .ok (.iload_n 1, 1) := by decide +kernel
theorem dX9_commonDivisor_3 : decode cX9_commonDivisor 3 = .ok (.istore_n 3, 1) := by decide +kernel
theorem dX9_commonDivisor_4 : decode cX9_commonDivisor 4 = .ok (.iconst 0, 1) := by decide +kernel
theorem dX9_commonDivisor_5 : decode cX9_commonDivisor 5 = .ok (.istore 4, 2) := by decide +kernel
theorem dX9_commonDivisor_7 : decode cX9_commonDivisor 7 = .ok (.iload 4, 2) := by decide +kernel
theorem dX9_commonDivisor_9 : decode cX9_commonDivisor 9 = .ok (.bipush 100, 2) := by decide +kernel
theorem dX9_commonDivisor_11 : decode cX9_commonDivisor 11 = .ok (.if_icmp .ge 23, 3) := by decide +kernel
theorem dX9_commonDivisor_14 : decode cX9_commonDivisor 14 = .ok (.iload_n 3, 1) := by decide +kernel
theorem dX9_commonDivisor_15 : decode cX9_commonDivisor 15 = .ok (.ifCond .eq 19, 3) := by decide +kernel
theorem dX9_commonDivisor_18 : decode cX9_commonDivisor 18 = .ok (.iload_n 2, 1) := by decide +kernel
theorem dX9_commonDivisor_19 : decode cX9_commonDivisor 19 = .ok (.iload_n 3, 1) := by decide +kernel
theorem dX9_commonDivisor_20 : decode cX9_commonDivisor 20 = .ok (.irem, 1) := by decide +kernel
theorem dX9_commonDivisor_21 : decode cX9_commonDivisor 21 = .ok (.istore 5, 2) := by decide +kernel
theorem dX9_commonDivisor_23 : decode cX9_commonDivisor 23 = .ok (.iload_n 3, 1) := by decide +kernel
theorem dX9_commonDivisor_24 : decode cX9_commonDivisor 24 = .ok (.istore_n 2, 1) := by decide +kernel
theorem dX9_commonDivisor_25 : decode cX9_commonDivisor 25 = .ok (.iload 5, 2) := by decide +kernel
theorem dX9_commonDivisor_27 : decode cX9_commonDivisor 27 = .ok (.istore_n 3, 1) := by decide +kernel
theorem dX9_commonDivisor_28 : decode cX9_commonDivisor 28 = .ok (.iinc 4 1, 3) := by decide +kernel
theorem dX9_commonDivisor_31 : decode cX9_commonDivisor 31 = .ok (.goto (-24), 3) := by decide +kernel
theorem dX9_commonDivisor_34 : decode cX9_commonDivisor 34 = .ok (.iload_n 2, 1) := by decide +kernel
theorem dX9_commonDivisor_35 : decode cX9_commonDivisor 35 = .ok (.iconst 1, 1) := by decide +kernel
theorem dX9_commonDivisor_36 : decode cX9_commonDivisor 36 = .ok (.invokestatic 199, 3) := by decide +kernel
theorem dX9_commonDivisor_39 : decode cX9_commonDivisor 39 = .ok (.ireturn, 1) := by decide +kernel
theorem dX9_within_0 : decode cX9_within 0 = .ok (.iload_n 0, 1) := by decide +kernel
theorem dX9_within_1 : decode cX9_within 1 = .ok (.iload_n 1, 1) := by decide +kernel
theorem dX9_within_2 : decode cX9_within 2 = .ok (.if_icmp .lt 12, 3) := by decide +kernel
theorem dX9_within_5 : decode cX9_within 5 = .ok (.iload_n 0, 1) := by decide +kernel
theorem dX9_within_6 : decode cX9_within 6 = .ok (.iload_n 2, 1) := by decide +kernel
theorem dX9_within_7 : decode cX9_within 7 = .ok (.if_icmp .gt 7, 3) := by decide +kernel
theorem dX9_within_10 : decode cX9_within 10 = .ok (.iconst 1, 1) := by decide +kernel
theorem dX9_within_11 : decode cX9_within 11 = .ok (.goto 4, 3) := by decide +kernel
theorem dX9_within_14 : decode cX9_within 14 = .ok (.iconst 0, 1) := by decide +kernel
theorem dX9_within_15 : decode cX9_within 15 = .ok (.ireturn, 1) := by decide +kernel
theorem dX9_clamp_0 : decode cX9_clamp 0 = .ok (.iload_n 1, 1) := by decide +kernel
theorem dX9_clamp_1 : decode cX9_clamp 1 = .ok (.iload_n 0, 1) := by decide +kernel
theorem dX9_clamp_2 : decode cX9_clamp 2 = .ok (.iload_n 2, 1) := by decide +kernel
theorem dX9_clamp_3 : decode cX9_clamp 3 = .ok (.invokestatic 303, 3) := by decide +kernel
theorem dX9_clamp_6 : decode cX9_clamp 6 = .ok (.invokestatic 199, 3) := by decide +kernel
theorem dX9_clamp_9 : decode cX9_clamp 9 = .ok (.ireturn, 1) := by decide +kernel
theorem dX9_has_0 : decode cX9_has 0 = .ok (.iload_n 1, 1) := by decide +kernel
theorem dX9_has_1 : decode cX9_has 1 = .ok (.iconst 0, 1) := by decide +kernel
theorem dX9_has_2 : decode cX9_has 2 = .ok (.bipush 31, 2) := by decide +kernel
theorem dX9_has_4 : decode cX9_has 4 = .ok (.invokestatic 90, 3) := by decide +kernel
theorem dX9_has_7 : decode cX9_has 7 = .ok (.ifCond .eq 16, 3) := by decide +kernel
theorem dX9_has_10 : decode cX9_has 10 = .ok (.iload_n 0, 1) := by decide +kernel
theorem dX9_has_11 : decode cX9_has 11 = .ok (.iload_n 1, 1) := by decide +kernel
theorem dX9_has_12 : decode cX9_has 12 = .ok (.iushr, 1) := by decide +kernel
theorem dX9_has_13 : decode cX9_has 13 = .ok (.iconst 1, 1) := by decide +kernel
theorem dX9_has_14 : decode cX9_has 14 = .ok (.iand, 1) := by decide +kernel
theorem dX9_has_15 : decode cX9_has 15 = .ok (.iconst 1, 1) := by decide +kernel
theorem dX9_has_16 : decode cX9_has 16 = .ok (.if_icmp .ne 7, 3) := by decide +kernel
theorem dX9_has_19 : decode cX9_has 19 = .ok (.iconst 1, 1) := by decide +kernel
theorem dX9_has_20 : decode cX9_has 20 = .ok (.goto 4, 3) := by decide +kernel
theorem dX9_has_23 : decode cX9_has 23 = .ok (.iconst 0, 1) := by decide +kernel
theorem dX9_has_24 : decode cX9_has 24 = .ok (.ireturn, 1) := by decide +kernel
theorem dX9_at_0 : decode cX9_at 0 = .ok (.iload_n 1, 1) := by decide +kernel
theorem dX9_at_1 : decode cX9_at 1 = .ok (.ifCond .lt 15, 3) := by decide +kernel
theorem dX9_at_4 : decode cX9_at 4 = .ok (.iload_n 1, 1) := by decide +kernel
theorem dX9_at_5 : decode cX9_at 5 = .ok (.aload_n 0, 1) := by decide +kernel
theorem dX9_at_6 : decode cX9_at 6 = .ok (.arraylength, 1) := by decide +kernel
theorem dX9_at_7 : decode cX9_at 7 = .ok (.if_icmp .ge 9, 3) := by decide +kernel
theorem dX9_at_10 : decode cX9_at 10 = .ok (.aload_n 0, 1) := by decide +kernel
theorem dX9_at_11 : decode cX9_at 11 = .ok (.iload_n 1, 1) := by decide +kernel
theorem dX9_at_12 : decode cX9_at 12 = .ok (.iaload, 1) := by decide +kernel
theorem dX9_at_13 : decode cX9_at 13 = .ok (.goto 4, 3) := by decide +kernel
theorem dX9_at_16 : decode cX9_at 16 = .ok (.iconst 0, 1) := by decide +kernel
theorem dX9_at_17 : decode cX9_at 17 = .ok (.ireturn, 1) := by decide +kernel
theorem dX9_put_0 : decode cX9_put 0 = .ok (.iload_n 1, 1) := by decide +kernel
theorem dX9_put_1 : decode cX9_put 1 = .ok (.ifCond .lt 13, 3) := by decide +kernel
theorem dX9_put_4 : decode cX9_put 4 = .ok (.iload_n 1, 1) := by decide +kernel
theorem dX9_put_5 : decode cX9_put 5 = .ok (.aload_n 0, 1) := by decide +kernel
theorem dX9_put_6 : decode cX9_put 6 = .ok (.arraylength, 1) := by decide +kernel
theorem dX9_put_7 : decode cX9_put 7 = .ok (.if_icmp .ge 7, 3) := by decide +kernel
theorem dX9_put_10 : decode cX9_put 10 = .ok (.aload_n 0, 1) := by decide +kernel
theorem dX9_put_11 : decode cX9_put 11 = .ok (.iload_n 1, 1) := by decide +kernel
theorem dX9_put_12 : decode cX9_put 12 = .ok (.iload_n 2, 1) := by decide +kernel
theorem dX9_put_13 : decode cX9_put 13 = .ok (.iastore, 1) := by decide +kernel
theorem dX9_put_14 : decode cX9_put 14 = .ok (.return_, 1) := by decide +kernel
theorem dX9_lowestOf_0 : decode cX9_lowestOf 0 = .ok (.iconst 0, 1) := by decide +kernel
theorem dX9_lowestOf_1 : decode cX9_lowestOf 1 = .ok (.istore_n 1, 1) := by decide +kernel
theorem dX9_lowestOf_2 : decode cX9_lowestOf 2 = .ok (.iload_n 1, 1) := by decide +kernel
theorem dX9_lowestOf_3 : decode cX9_lowestOf 3 = .ok (.bipush 31, 2) := by decide +kernel
theorem dX9_lowestOf_5 : decode cX9_lowestOf 5 = .ok (.if_icmp .ge 17, 3) := by decide +kernel
theorem dX9_lowestOf_8 : decode cX9_lowestOf 8 = .ok (.iload_n 0, 1) := by decide +kernel
theorem dX9_lowestOf_9 : decode cX9_lowestOf 9 = .ok (.iload_n 1, 1) := by decide +kernel
theorem dX9_lowestOf_10 : decode cX9_lowestOf 10 = .ok (.invokestatic 290, 3) := by decide +kernel
theorem dX9_lowestOf_13 : decode cX9_lowestOf 13 = .ok (.ifCond .ne 9, 3) := by decide +kernel
theorem dX9_lowestOf_16 : decode cX9_lowestOf 16 = .ok (.iinc 1 1, 3) := by decide +kernel
theorem dX9_lowestOf_19 : decode cX9_lowestOf 19 = .ok (.goto (-17), 3) := by decide +kernel
theorem dX9_lowestOf_22 : decode cX9_lowestOf 22 = .ok (.iload_n 1, 1) := by decide +kernel
theorem dX9_lowestOf_23 : decode cX9_lowestOf 23 = .ok (.ireturn, 1) := by decide +kernel
theorem dX9_sumOf_0 : decode cX9_sumOf 0 = .ok (.iconst 0, 1) := by decide +kernel
theorem dX9_sumOf_1 : decode cX9_sumOf 1 = .ok (.istore_n 2, 1) := by decide +kernel
theorem dX9_sumOf_2 : decode cX9_sumOf 2 = .ok (.iconst 0, 1) := by decide +kernel
theorem dX9_sumOf_3 : decode cX9_sumOf 3 = .ok (.istore_n 3, 1) := by decide +kernel
theorem dX9_sumOf_4 : decode cX9_sumOf 4 = .ok (.iload_n 3, 1) := by decide +kernel
theorem dX9_sumOf_5 : decode cX9_sumOf 5 = .ok (.aload_n 0, 1) := by decide +kernel
theorem dX9_sumOf_6 : decode cX9_sumOf 6 = .ok (.arraylength, 1) := by decide +kernel
theorem dX9_sumOf_7 : decode cX9_sumOf 7 = .ok (.if_icmp .ge 23, 3) := by decide +kernel
theorem dX9_sumOf_10 : decode cX9_sumOf 10 = .ok (.iload_n 1, 1) := by decide +kernel
theorem dX9_sumOf_11 : decode cX9_sumOf 11 = .ok (.iload_n 3, 1) := by decide +kernel
theorem dX9_sumOf_12 : decode cX9_sumOf 12 = .ok (.invokestatic 290, 3) := by decide +kernel
theorem dX9_sumOf_15 : decode cX9_sumOf 15 = .ok (.ifCond .eq 9, 3) := by decide +kernel
theorem dX9_sumOf_18 : decode cX9_sumOf 18 = .ok (.iload_n 2, 1) := by decide +kernel
theorem dX9_sumOf_19 : decode cX9_sumOf 19 = .ok (.aload_n 0, 1) := by decide +kernel
theorem dX9_sumOf_20 : decode cX9_sumOf 20 = .ok (.iload_n 3, 1) := by decide +kernel
theorem dX9_sumOf_21 : decode cX9_sumOf 21 = .ok (.iaload, 1) := by decide +kernel
theorem dX9_sumOf_22 : decode cX9_sumOf 22 = .ok (.iadd, 1) := by decide +kernel
theorem dX9_sumOf_23 : decode cX9_sumOf 23 = .ok (.istore_n 2, 1) := by decide +kernel
theorem dX9_sumOf_24 : decode cX9_sumOf 24 = .ok (.iinc 3 1, 3) := by decide +kernel
theorem dX9_sumOf_27 : decode cX9_sumOf 27 = .ok (.goto (-23), 3) := by decide +kernel
theorem dX9_sumOf_30 : decode cX9_sumOf 30 = .ok (.iload_n 2, 1) := by decide +kernel
theorem dX9_sumOf_31 : decode cX9_sumOf 31 = .ok (.ireturn, 1) := by decide +kernel
theorem dX10_init_0 : decode cX10_init 0 = .ok (.aload_n 0, 1) := by decide +kernel
theorem dX10_init_1 : decode cX10_init 1 = .ok (.invokespecial 1, 3) := by decide +kernel
theorem dX10_init_4 : decode cX10_init 4 = .ok (.aload_n 0, 1) := by decide +kernel
theorem dX10_init_5 : decode cX10_init 5 = .ok (.bipush 76, 2) := by decide +kernel
theorem dX10_init_7 : decode cX10_init 7 = .ok (.newarray .int, 2) := by decide +kernel
theorem dX10_init_9 : decode cX10_init 9 = .ok (.putfield 7, 3) := by decide +kernel
theorem dX10_init_12 : decode cX10_init 12 = .ok (.aload_n 0, 1) := by decide +kernel
theorem dX10_init_13 : decode cX10_init 13 = .ok (.bipush 76, 2) := by decide +kernel
theorem dX10_init_15 : decode cX10_init 15 = .ok (.newarray .int, 2) := by decide +kernel
theorem dX10_init_17 : decode cX10_init 17 = .ok (.putfield 13, 3) := by decide +kernel
theorem dX10_init_20 : decode cX10_init 20 = .ok (.aload_n 0, 1) := by decide +kernel
theorem dX10_init_21 : decode cX10_init 21 = .ok (.bipush 76, 2) := by decide +kernel
theorem dX10_init_23 : decode cX10_init 23 = .ok (.newarray .int, 2) := by decide +kernel
theorem dX10_init_25 : decode cX10_init 25 = .ok (.putfield 16, 3) := by decide +kernel
theorem dX10_init_28 : decode cX10_init 28 = .ok (.aload_n 0, 1) := by decide +kernel
theorem dX10_init_29 : decode cX10_init 29 = .ok (.bipush 16, 2) := by decide +kernel
theorem dX10_init_31 : decode cX10_init 31 = .ok (.newarray .int, 2) := by decide +kernel
theorem dX10_init_33 : decode cX10_init 33 = .ok (.putfield 19, 3) := by decide +kernel
theorem dX10_init_36 : decode cX10_init 36 = .ok (.aload_n 0, 1) := by decide +kernel
theorem dX10_init_37 : decode cX10_init 37 = .ok (.bipush 8, 2) := by decide +kernel
theorem dX10_init_39 : decode cX10_init 39 = .ok (.newarray .int, 2) := by decide +kernel
theorem dX10_init_41 : decode cX10_init 41 = .ok (.putfield 22, 3) := by decide +kernel
theorem dX10_init_44 : decode cX10_init 44 = .ok (.aload_n 0, 1) := by decide +kernel
theorem dX10_init_45 : decode cX10_init 45 = .ok (.sipush 384, 3) := by decide +kernel
theorem dX10_init_48 : decode cX10_init 48 = .ok (.newarray .int, 2) := by decide +kernel
theorem dX10_init_50 : decode cX10_init 50 = .ok (.putfield 25, 3) := by decide +kernel
theorem dX10_init_53 : decode cX10_init 53 = .ok (.aload_n 0, 1) := by decide +kernel
theorem dX10_init_54 : decode cX10_init 54 = .ok (.sipush 260, 3) := by decide +kernel
theorem dX10_init_57 : decode cX10_init 57 = .ok (.newarray .byte, 2) := by decide +kernel
theorem dX10_init_59 : decode cX10_init 59 = .ok (.putfield 28, 3) := by decide +kernel
theorem dX10_init_62 : decode cX10_init 62 = .ok (.aload_n 0, 1) := by decide +kernel
theorem dX10_init_63 : decode cX10_init 63 = .ok (.sipush 260, 3) := by decide +kernel
theorem dX10_init_66 : decode cX10_init 66 = .ok (.newarray .int, 2) := by decide +kernel
theorem dX10_init_68 : decode cX10_init 68 = .ok (.putfield 32, 3) := by decide +kernel
theorem dX10_init_71 : decode cX10_init 71 = .ok (.aload_n 0, 1) := by decide +kernel
theorem dX10_init_72 : decode cX10_init 72 = .ok (.sipush 260, 3) := by decide +kernel
theorem dX10_init_75 : decode cX10_init 75 = .ok (.newarray .int, 2) := by decide +kernel
theorem dX10_init_77 : decode cX10_init 77 = .ok (.putfield 35, 3) := by decide +kernel
theorem dX10_init_80 : decode cX10_init 80 = .ok (.aload_n 0, 1) := by decide +kernel
theorem dX10_init_81 : decode cX10_init 81 = .ok (.bipush 16, 2) := by decide +kernel
theorem dX10_init_83 : decode cX10_init 83 = .ok (.newarray .int, 2) := by decide +kernel
theorem dX10_init_85 : decode cX10_init 85 = .ok (.putfield 38, 3) := by decide +kernel
theorem dX10_init_88 : decode cX10_init 88 = .ok (.aload_n 0, 1) := by decide +kernel
theorem dX10_init_89 : decode cX10_init 89 = .ok (.bipush 16, 2) := by decide +kernel
theorem dX10_init_91 : decode cX10_init 91 = .ok (.newarray .int, 2) := by decide +kernel
theorem dX10_init_93 : decode cX10_init 93 = .ok (.putfield 41, 3) := by decide +kernel
theorem dX10_init_96 : decode cX10_init 96 = .ok (.aload_n 0, 1) := by decide +kernel
theorem dX10_init_97 : decode cX10_init 97 = .ok (.bipush 16, 2) := by decide +kernel
theorem dX10_init_99 : decode cX10_init 99 = .ok (.newarray .int, 2) := by decide +kernel
theorem dX10_init_101 : decode cX10_init 101 = .ok (.putfield 44, 3) := by decide +kernel
theorem dX10_init_104 : decode cX10_init 104 = .ok (.aload_n 0, 1) := by decide +kernel
theorem dX10_init_105 : decode cX10_init 105 = .ok (.bipush 16, 2) := by decide +kernel
theorem dX10_init_107 : decode cX10_init 107 = .ok (.newarray .int, 2) := by decide +kernel
theorem dX10_init_109 : decode cX10_init 109 = .ok (.putfield 47, 3) := by decide +kernel
theorem dX10_init_112 : decode cX10_init 112 = .ok (.aload_n 0, 1) := by decide +kernel
theorem dX10_init_113 : decode cX10_init 113 = .ok (.sipush 260, 3) := by decide +kernel
theorem dX10_init_116 : decode cX10_init 116 = .ok (.newarray .int, 2) := by decide +kernel
theorem dX10_init_118 : decode cX10_init 118 = .ok (.putfield 50, 3) := by decide +kernel
theorem dX10_init_121 : decode cX10_init 121 = .ok (.aload_n 0, 1) := by decide +kernel
theorem dX10_init_122 : decode cX10_init 122 = .ok (.bipush 16, 2) := by decide +kernel
theorem dX10_init_124 : decode cX10_init 124 = .ok (.newarray .int, 2) := by decide +kernel
theorem dX10_init_126 : decode cX10_init 126 = .ok (.putfield 53, 3) := by decide +kernel
theorem dX10_init_129 : decode cX10_init 129 = .ok (.aload_n 0, 1) := by decide +kernel
theorem dX10_init_130 : decode cX10_init 130 = .ok (.bipush 16, 2) := by decide +kernel
theorem dX10_init_132 : decode cX10_init 132 = .ok (.newarray .int, 2) := by decide +kernel
theorem dX10_init_134 : decode cX10_init 134 = .ok (.putfield 56, 3) := by decide +kernel
theorem dX10_init_137 : decode cX10_init 137 = .ok (.aload_n 0, 1) := by decide +kernel
theorem dX10_init_138 : decode cX10_init 138 = .ok (.bipush 16, 2) := by decide +kernel
theorem dX10_init_140 : decode cX10_init 140 = .ok (.newarray .int, 2) := by decide +kernel
theorem dX10_init_142 : decode cX10_init 142 = .ok (.putfield 59, 3) := by decide +kernel
theorem dX10_init_145 : decode cX10_init 145 = .ok (.aload_n 0, 1) := by decide +kernel
theorem dX10_init_146 : decode cX10_init 146 = .ok (.bipush 16, 2) := by decide +kernel
theorem dX10_init_148 : decode cX10_init 148 = .ok (.newarray .int, 2) := by decide +kernel
theorem dX10_init_150 : decode cX10_init 150 = .ok (.putfield 62, 3) := by decide +kernel
theorem dX10_init_153 : decode cX10_init 153 = .ok (.aload_n 0, 1) := by decide +kernel
theorem dX10_init_154 : decode cX10_init 154 = .ok (.sipush 260, 3) := by decide +kernel
theorem dX10_init_157 : decode cX10_init 157 = .ok (.newarray .int, 2) := by decide +kernel
theorem dX10_init_159 : decode cX10_init 159 = .ok (.putfield 65, 3) := by decide +kernel
theorem dX10_init_162 : decode cX10_init 162 = .ok (.aload_n 0, 1) := by decide +kernel
theorem dX10_init_163 : decode cX10_init 163 = .ok (.bipush 8, 2) := by decide +kernel
theorem dX10_init_165 : decode cX10_init 165 = .ok (.newarray .int, 2) := by decide +kernel
theorem dX10_init_167 : decode cX10_init 167 = .ok (.putfield 68, 3) := by decide +kernel
theorem dX10_init_170 : decode cX10_init 170 = .ok (.aload_n 0, 1) := by decide +kernel
theorem dX10_init_171 : decode cX10_init 171 = .ok (.bipush 48, 2) := by decide +kernel
theorem dX10_init_173 : decode cX10_init 173 = .ok (.newarray .int, 2) := by decide +kernel
theorem dX10_init_175 : decode cX10_init 175 = .ok (.putfield 71, 3) := by decide +kernel
theorem dX10_init_178 : decode cX10_init 178 = .ok (.aload_n 0, 1) := by decide +kernel
theorem dX10_init_179 : decode cX10_init 179 = .ok (.iconst 2, 1) := by decide +kernel
theorem dX10_init_180 : decode cX10_init 180 = .ok (.newarray .int, 2) := by decide +kernel
theorem dX10_init_182 : decode cX10_init 182 = .ok (.putfield 74, 3) := by decide +kernel
theorem dX10_init_185 : decode cX10_init 185 = .ok (.aload_n 0, 1) := by decide +kernel
theorem dX10_init_186 : decode cX10_init 186 = .ok (.iconst 2, 1) := by decide +kernel
theorem dX10_init_187 : decode cX10_init 187 = .ok (.newarray .int, 2) := by decide +kernel
theorem dX10_init_189 : decode cX10_init 189 = .ok (.putfield 77, 3) := by decide +kernel
theorem dX10_init_192 : decode cX10_init 192 = .ok (.aload_n 0, 1) := by decide +kernel
theorem dX10_init_193 : decode cX10_init 193 = .ok (.iconst 2, 1) := by decide +kernel
theorem dX10_init_194 : decode cX10_init 194 = .ok (.newarray .int, 2) := by decide +kernel
theorem dX10_init_196 : decode cX10_init 196 = .ok (.putfield 80, 3) := by decide +kernel
theorem dX10_init_199 : decode cX10_init 199 = .ok (.aload_n 0, 1) := by decide +kernel
theorem dX10_init_200 : decode cX10_init 200 = .ok (.bipush 16, 2) := by decide +kernel
theorem dX10_init_202 : decode cX10_init 202 = .ok (.newarray .int, 2) := by decide +kernel
theorem dX10_init_204 : decode cX10_init 204 = .ok (.putfield 83, 3) := by decide +kernel
theorem dX10_init_207 : decode cX10_init 207 = .ok (.aload_n 0, 1) := by decide +kernel
theorem dX10_init_208 : decode cX10_init 208 = .ok (.ldc 86, 2) := by decide +kernel
theorem dX10_init_210 : decode cX10_init 210 = .ok (.newarray .byte, 2) := by decide +kernel
theorem dX10_init_212 : decode cX10_init 212 = .ok (.putfield 87, 3) := by decide +kernel
theorem dX10_init_215 : decode cX10_init 215 = .ok (.aload_n 0, 1) := by decide +kernel
theorem dX10_init_216 : decode cX10_init 216 = .ok (.ldc 90, 2) := by decide +kernel
theorem dX10_init_218 : decode cX10_init 218 = .ok (.newarray .int, 2) := by decide +kernel
theorem dX10_init_220 : decode cX10_init 220 = .ok (.putfield 91, 3) := by decide +kernel
theorem dX10_init_223 : decode cX10_init 223 = .ok (.aload_n 0, 1) := by decide +kernel
theorem dX10_init_224 : decode cX10_init 224 = .ok (.bipush 16, 2) := by decide +kernel
theorem dX10_init_226 : decode cX10_init 226 = .ok (.newarray .int, 2) := by decide +kernel
theorem dX10_init_228 : decode cX10_init 228 = .ok (.putfield 94, 3) := by decide +kernel
theorem dX10_init_231 : decode cX10_init 231 = .ok (.aload_n 0, 1) := by decide +kernel
theorem dX10_init_232 : decode cX10_init 232 = .ok (.bipush 16, 2) := by decide +kernel
theorem dX10_init_234 : decode cX10_init 234 = .ok (.newarray .int, 2) := by decide +kernel
theorem dX10_init_236 : decode cX10_init 236 = .ok (.putfield 97, 3) := by decide +kernel
theorem dX10_init_239 : decode cX10_init 239 = .ok (.aload_n 0, 1) := by decide +kernel
theorem dX10_init_240 : decode cX10_init 240 = .ok (.bipush 16, 2) := by decide +kernel
theorem dX10_init_242 : decode cX10_init 242 = .ok (.newarray .int, 2) := by decide +kernel
theorem dX10_init_244 : decode cX10_init 244 = .ok (.putfield 100, 3) := by decide +kernel
theorem dX10_init_247 : decode cX10_init 247 = .ok (.aload_n 0, 1) := by decide +kernel
theorem dX10_init_248 : decode cX10_init 248 = .ok (.bipush 16, 2) := by decide +kernel
theorem dX10_init_250 : decode cX10_init 250 = .ok (.newarray .int, 2) := by decide +kernel
theorem dX10_init_252 : decode cX10_init 252 = .ok (.putfield 103, 3) := by decide +kernel
theorem dX10_init_255 : decode cX10_init 255 = .ok (.aload_n 0, 1) := by decide +kernel
theorem dX10_init_256 : decode cX10_init 256 = .ok (.bipush 16, 2) := by decide +kernel
theorem dX10_init_258 : decode cX10_init 258 = .ok (.newarray .int, 2) := by decide +kernel
theorem dX10_init_260 : decode cX10_init 260 = .ok (.putfield 106, 3) := by decide +kernel
theorem dX10_init_263 : decode cX10_init 263 = .ok (.aload_n 0, 1) := by decide +kernel
theorem dX10_init_264 : decode cX10_init 264 = .ok (.bipush 54, 2) := by decide +kernel
theorem dX10_init_266 : decode cX10_init 266 = .ok (.newarray .int, 2) := by decide +kernel
theorem dX10_init_268 : decode cX10_init 268 = .ok (.putfield 109, 3) := by decide +kernel
theorem dX10_init_271 : decode cX10_init 271 = .ok (.aload_n 0, 1) := by decide +kernel
theorem dX10_init_272 : decode cX10_init 272 = .ok (.getfield 7, 3) := by decide +kernel
theorem dX10_init_275 : decode cX10_init 275 = .ok (.bipush 75, 2) := by decide +kernel
theorem dX10_init_277 : decode cX10_init 277 = .ok (.iconst 1, 1) := by decide +kernel
theorem dX10_init_278 : decode cX10_init 278 = .ok (.iastore, 1) := by decide +kernel
theorem dX10_init_279 : decode cX10_init 279 = .ok (.return_, 1) := by decide +kernel
theorem dX10_in_0 : decode cX10_in 0 = .ok (.iload_n 0, 1) := by decide +kernel
theorem dX10_in_1 : decode cX10_in 1 = .ok (.iload_n 1, 1) := by decide +kernel
theorem dX10_in_2 : decode cX10_in 2 = .ok (.if_icmp .lt 12, 3) := by decide +kernel
theorem dX10_in_5 : decode cX10_in 5 = .ok (.iload_n 0, 1) := by decide +kernel
theorem dX10_in_6 : decode cX10_in 6 = .ok (.iload_n 2, 1) := by decide +kernel
theorem dX10_in_7 : decode cX10_in 7 = .ok (.if_icmp .gt 7, 3) := by decide +kernel
theorem dX10_in_10 : decode cX10_in 10 = .ok (.iconst 1, 1) := by decide +kernel
theorem dX10_in_11 : decode cX10_in 11 = .ok (.goto 4, 3) := by decide +kernel
theorem dX10_in_14 : decode cX10_in 14 = .ok (.iconst 0, 1) := by decide +kernel
theorem dX10_in_15 : decode cX10_in 15 = .ok (.ireturn, 1) := by decide +kernel
theorem dX10_min_0 : decode cX10_min 0 = .ok (.iload_n 0, 1) := by decide +kernel
theorem dX10_min_1 : decode cX10_min 1 = .ok (.iload_n 1, 1) := by decide +kernel
theorem dX10_min_2 : decode cX10_min 2 = .ok (.if_icmp .ge 7, 3) := by decide +kernel
theorem dX10_min_5 : decode cX10_min 5 = .ok (.iload_n 0, 1) := by decide +kernel
theorem dX10_min_6 : decode cX10_min 6 = .ok (.goto 4, 3) := by decide +kernel
theorem dX10_min_9 : decode cX10_min 9 = .ok (.iload_n 1, 1) := by decide +kernel
theorem dX10_min_10 : decode cX10_min 10 = .ok (.ireturn, 1) := by decide +kernel
theorem dX10_max_0 : decode cX10_max 0 = .ok (.iload_n 0, 1) := by decide +kernel
theorem dX10_max_1 : decode cX10_max 1 = .ok (.iload_n 1, 1) := by decide +kernel
theorem dX10_max_2 : decode cX10_max 2 = .ok (.if_icmp .le 7, 3) := by decide +kernel
theorem dX10_max_5 : decode cX10_max 5 = .ok (.iload_n 0, 1) := by decide +kernel
theorem dX10_max_6 : decode cX10_max 6 = .ok (.goto 4, 3) := by decide +kernel
theorem dX10_max_9 : decode cX10_max 9 = .ok (.iload_n 1, 1) := by decide +kernel
theorem dX10_max_10 : decode cX10_max 10 = .ok (.ireturn, 1) := by decide +kernel
theorem dX10_has_0 : decode cX10_has 0 = .ok (.iload_n 0, 1) := by decide +kernel
theorem dX10_has_1 : decode cX10_has 1 = .ok (.iload_n 1, 1) := by decide +kernel
theorem dX10_has_2 : decode cX10_has 2 = .ok (.ishr, 1) := by decide +kernel
theorem dX10_has_3 : decode cX10_has 3 = .ok (.iconst 1, 1) := by decide +kernel
theorem dX10_has_4 : decode cX10_has 4 = .ok (.iand, 1) := by decide +kernel
theorem dX10_has_5 : decode cX10_has 5 = .ok (.iconst 1, 1) := by decide +kernel
theorem dX10_has_6 : decode cX10_has 6 = .ok (.if_icmp .ne 7, 3) := by decide +kernel
theorem dX10_has_9 : decode cX10_has 9 = .ok (.iconst 1, 1) := by decide +kernel
theorem dX10_has_10 : decode cX10_has 10 = .ok (.goto 4, 3) := by decide +kernel
theorem dX10_has_13 : decode cX10_has 13 = .ok (.iconst 0, 1) := by decide +kernel
theorem dX10_has_14 : decode cX10_has 14 = .ok (.ireturn, 1) := by decide +kernel
theorem dX10_bits_0 : decode cX10_bits 0 = .ok (.iconst 0, 1) := by decide +kernel
theorem dX10_bits_1 : decode cX10_bits 1 = .ok (.istore_n 1, 1) := by decide +kernel
theorem dX10_bits_2 : decode cX10_bits 2 = .ok (.iconst 0, 1) := by decide +kernel
theorem dX10_bits_3 : decode cX10_bits 3 = .ok (.istore_n 2, 1) := by decide +kernel
theorem dX10_bits_4 : decode cX10_bits 4 = .ok (.iload_n 2, 1) := by decide +kernel
theorem dX10_bits_5 : decode cX10_bits 5 = .ok (.bipush 16, 2) := by decide +kernel
theorem dX10_bits_7 : decode cX10_bits 7 = .ok (.if_icmp .ge 17, 3) := by decide +kernel
theorem dX10_bits_10 : decode cX10_bits 10 = .ok (.iload_n 1, 1) := by decide +kernel
theorem dX10_bits_11 : decode cX10_bits 11 = .ok (.iload_n 0, 1) := by decide +kernel
theorem dX10_bits_12 : decode cX10_bits 12 = .ok (.iload_n 2, 1) := by decide +kernel
theorem dX10_bits_13 : decode cX10_bits 13 = .ok (.ishr, 1) := by decide +kernel
theorem dX10_bits_14 : decode cX10_bits 14 = .ok (.iconst 1, 1) := by decide +kernel
theorem dX10_bits_15 : decode cX10_bits 15 = .ok (.iand, 1) := by decide +kernel
theorem dX10_bits_16 : decode cX10_bits 16 = .ok (.iadd, 1) := by decide +kernel
theorem dX10_bits_17 : decode cX10_bits 17 = .ok (.istore_n 1, 1) := by decide +kernel
theorem dX10_bits_18 : decode cX10_bits 18 = .ok (.iinc 2 1, 3) := by decide +kernel
theorem dX10_bits_21 : decode cX10_bits 21 = .ok (.goto (-17), 3) := by decide +kernel
theorem dX10_bits_24 : decode cX10_bits 24 = .ok (.iload_n 1, 1) := by decide +kernel
theorem dX10_bits_25 : decode cX10_bits 25 = .ok (.ireturn, 1) := by decide +kernel
theorem dX10_copies_0 : decode cX10_copies 0 = .ok (.iconst 0, 1) := by decide +kernel
theorem dX10_copies_1 : decode cX10_copies 1 = .ok (.istore_n 2, 1) := by decide +kernel
theorem dX10_copies_2 : decode cX10_copies 2 = .ok (.iload_n 2, 1) := by decide +kernel
theorem dX10_copies_3 : decode cX10_copies 3 = .ok (.bipush 76, 2) := by decide +kernel
theorem dX10_copies_5 : decode cX10_copies 5 = .ok (.if_icmp .ge 15, 3) := by decide +kernel
theorem dX10_copies_8 : decode cX10_copies 8 = .ok (.aload_n 1, 1) := by decide +kernel
theorem dX10_copies_9 : decode cX10_copies 9 = .ok (.iload_n 2, 1) := by decide +kernel
theorem dX10_copies_10 : decode cX10_copies 10 = .ok (.aload_n 0, 1) := by decide +kernel
theorem dX10_copies_11 : decode cX10_copies 11 = .ok (.iload_n 2, 1) := by decide +kernel
theorem dX10_copies_12 : decode cX10_copies 12 = .ok (.iaload, 1) := by decide +kernel
theorem dX10_copies_13 : decode cX10_copies 13 = .ok (.iastore, 1) := by decide +kernel
theorem dX10_copies_14 : decode cX10_copies 14 = .ok (.iinc 2 1, 3) := by decide +kernel
theorem dX10_copies_17 : decode cX10_copies 17 = .ok (.goto (-15), 3) := by decide +kernel
theorem dX10_copies_20 : decode cX10_copies 20 = .ok (.return_, 1) := by decide +kernel
theorem dX10_isTold_0 : decode cX10_isTold 0 = .ok (.iload_n 1, 1) := by decide +kernel
theorem dX10_isTold_1 : decode cX10_isTold 1 = .ok (.iconst 0, 1) := by decide +kernel
theorem dX10_isTold_2 : decode cX10_isTold 2 = .ok (.bipush 15, 2) := by decide +kernel
theorem dX10_isTold_4 : decode cX10_isTold 4 = .ok (.invokestatic 112, 3) := by decide +kernel
theorem dX10_isTold_7 : decode cX10_isTold 7 = .ok (.ifCond .eq 18, 3) := by decide +kernel
theorem dX10_isTold_10 : decode cX10_isTold 10 = .ok (.aload_n 0, 1) := by decide +kernel
theorem dX10_isTold_11 : decode cX10_isTold 11 = .ok (.getfield 116, 3) := by decide +kernel
theorem dX10_isTold_14 : decode cX10_isTold 14 = .ok (.iload_n 1, 1) := by decide +kernel
theorem dX10_isTold_15 : decode cX10_isTold 15 = .ok (.invokestatic 120, 3) := by decide +kernel
theorem dX10_isTold_18 : decode cX10_isTold 18 = .ok (.ifCond .eq 7, 3) := by decide +kernel
theorem dX10_isTold_21 : decode cX10_isTold 21 = .ok (.iconst 1, 1) := by decide +kernel
theorem dX10_isTold_22 : decode cX10_isTold 22 = .ok (.goto 4, 3) := by decide +kernel
theorem dX10_isTold_25 : decode cX10_isTold 25 = .ok (.iconst 0, 1) := by decide +kernel
theorem dX10_isTold_26 : decode cX10_isTold 26 = .ok (.ireturn, 1) := by decide +kernel
theorem dX10_isMan_0 : decode cX10_isMan 0 = .ok (.iload_n 1, 1) := by decide +kernel
theorem dX10_isMan_1 : decode cX10_isMan 1 = .ok (.iconst 0, 1) := by decide +kernel
theorem dX10_isMan_2 : decode cX10_isMan 2 = .ok (.bipush 7, 2) := by decide +kernel
theorem dX10_isMan_4 : decode cX10_isMan 4 = .ok (.invokestatic 112, 3) := by decide +kernel
theorem dX10_isMan_7 : decode cX10_isMan 7 = .ok (.ifCond .eq 20, 3) := by decide +kernel
theorem dX10_isMan_10 : decode cX10_isMan 10 = .ok (.aload_n 0, 1) := by decide +kernel
theorem dX10_isMan_11 : decode cX10_isMan 11 = .ok (.getfield 7, 3) := by decide +kernel
theorem dX10_isMan_14 : decode cX10_isMan 14 = .ok (.bipush 48, 2) := by decide +kernel
theorem dX10_isMan_16 : decode cX10_isMan 16 = .ok (.iload_n 1, 1) := by decide +kernel
theorem dX10_isMan_17 : decode cX10_isMan 17 = .ok (.iadd, 1) := by decide +kernel
theorem dX10_isMan_18 : decode cX10_isMan 18 = .ok (.iaload, 1) := by decide +kernel
theorem dX10_isMan_19 : decode cX10_isMan 19 = .ok (.iconst 1, 1) := by decide +kernel
theorem dX10_isMan_20 : decode cX10_isMan 20 = .ok (.if_icmp .ne 7, 3) := by decide +kernel
theorem dX10_isMan_23 : decode cX10_isMan 23 = .ok (.iconst 1, 1) := by decide +kernel
theorem dX10_isMan_24 : decode cX10_isMan 24 = .ok (.goto 4, 3) := by decide +kernel
theorem dX10_isMan_27 : decode cX10_isMan 27 = .ok (.iconst 0, 1) := by decide +kernel
theorem dX10_isMan_28 : decode cX10_isMan 28 = .ok (.ireturn, 1) := by decide +kernel
theorem dX10_menAt_0 : decode cX10_menAt 0 = .ok (.iconst 0, 1) := by decide +kernel
theorem dX10_menAt_1 : decode cX10_menAt 1 = .ok (.istore_n 2, 1) := by decide +kernel
theorem dX10_menAt_2 : decode cX10_menAt 2 = .ok (.iconst 0, 1) := by decide +kernel
theorem dX10_menAt_3 : decode cX10_menAt 3 = .ok (.istore_n 3, 1) := by decide +kernel
theorem dX10_menAt_4 : decode cX10_menAt 4 = .ok (.iload_n 3, 1) := by decide +kernel
theorem dX10_menAt_5 : decode cX10_menAt 5 = .ok (.bipush 8, 2) := by decide +kernel
theorem dX10_menAt_7 : decode cX10_menAt 7 = .ok (.if_icmp .ge 36, 3) := by decide +kernel
theorem dX10_menAt_10 : decode cX10_menAt 10 = .ok (.aload_n 0, 1) := by decide +kernel
theorem dX10_menAt_11 : decode cX10_menAt 11 = .ok (.iload_n 3, 1) := by decide +kernel
theorem dX10_menAt_12 : decode cX10_menAt 12 = .ok (.invokevirtual 124, 3) := by decide +kernel
theorem dX10_menAt_15 : decode cX10_menAt 15 = .ok (.ifCond .eq 22, 3) := by decide +kernel
theorem dX10_menAt_18 : decode cX10_menAt 18 = .ok (.aload_n 0, 1) := by decide +kernel
theorem dX10_menAt_19 : decode cX10_menAt 19 = .ok (.getfield 7, 3) := by decide +kernel
theorem dX10_menAt_22 : decode cX10_menAt 22 = .ok (.bipush 56, 2) := by decide +kernel
theorem dX10_menAt_24 : decode cX10_menAt 24 = .ok (.iload_n 3, 1) := by decide +kernel
theorem dX10_menAt_25 : decode cX10_menAt 25 = .ok (.iadd, 1) := by decide +kernel
theorem dX10_menAt_26 : decode cX10_menAt 26 = .ok (.iaload, 1) := by decide +kernel
theorem dX10_menAt_27 : decode cX10_menAt 27 = .ok (.iload_n 1, 1) := by decide +kernel
theorem dX10_menAt_28 : decode cX10_menAt 28 = .ok (.if_icmp .ne 9, 3) := by decide +kernel
theorem dX10_menAt_31 : decode cX10_menAt 31 = .ok (.iload_n 2, 1) := by decide +kernel
theorem dX10_menAt_32 : decode cX10_menAt 32 = .ok (.iconst 1, 1) := by decide +kernel
theorem dX10_menAt_33 : decode cX10_menAt 33 = .ok (.iload_n 3, 1) := by decide +kernel
theorem dX10_menAt_34 : decode cX10_menAt 34 = .ok (.ishl, 1) := by decide +kernel
theorem dX10_menAt_35 : decode cX10_menAt 35 = .ok (.ior, 1) := by decide +kernel
theorem dX10_menAt_36 : decode cX10_menAt 36 = .ok (.istore_n 2, 1) := by decide +kernel
theorem dX10_menAt_37 : decode cX10_menAt 37 = .ok (.iinc 3 1, 3) := by decide +kernel
theorem dX10_menAt_40 : decode cX10_menAt 40 = .ok (.goto (-36), 3) := by decide +kernel
theorem dX10_menAt_43 : decode cX10_menAt 43 = .ok (.iload_n 2, 1) := by decide +kernel
theorem dX10_menAt_44 : decode cX10_menAt 44 = .ok (.ireturn, 1) := by decide +kernel
theorem dX10_guarded_0 : decode cX10_guarded 0 = .ok (.iconst 0, 1) := by decide +kernel
theorem dX10_guarded_1 : decode cX10_guarded 1 = .ok (.istore_n 1, 1) := by decide +kernel
theorem dX10_guarded_2 : decode cX10_guarded 2 = .ok (.iconst 0, 1) := by decide +kernel
theorem dX10_guarded_3 : decode cX10_guarded 3 = .ok (.istore_n 2, 1) := by decide +kernel
theorem dX10_guarded_4 : decode cX10_guarded 4 = .ok (.iload_n 2, 1) := by decide +kernel
theorem dX10_guarded_5 : decode cX10_guarded 5 = .ok (.bipush 8, 2) := by decide +kernel
theorem dX10_guarded_7 : decode cX10_guarded 7 = .ok (.if_icmp .ge 31, 3) := by decide +kernel
theorem dX10_guarded_10 : decode cX10_guarded 10 = .ok (.aload_n 0, 1) := by decide +kernel
theorem dX10_guarded_11 : decode cX10_guarded 11 = .ok (.iload_n 2, 1) := by decide +kernel
theorem dX10_guarded_12 : decode cX10_guarded 12 = .ok (.invokevirtual 124, 3) := by decide +kernel
theorem dX10_guarded_15 : decode cX10_guarded 15 = .ok (.ifCond .eq 17, 3) := by decide +kernel
theorem dX10_guarded_18 : decode cX10_guarded 18 = .ok (.iload_n 1, 1) := by decide +kernel
theorem dX10_guarded_19 : decode cX10_guarded 19 = .ok (.iconst 1, 1) := by decide +kernel
theorem dX10_guarded_20 : decode cX10_guarded 20 = .ok (.aload_n 0, 1) := by decide +kernel
theorem dX10_guarded_21 : decode cX10_guarded 21 = .ok (.getfield 7, 3) := by decide +kernel
theorem dX10_guarded_24 : decode cX10_guarded 24 = .ok (.bipush 56, 2) := by decide +kernel
theorem dX10_guarded_26 : decode cX10_guarded 26 = .ok (.iload_n 2, 1) := by decide +kernel
theorem dX10_guarded_27 : decode cX10_guarded 27 = .ok (.iadd, 1) := by decide +kernel
theorem dX10_guarded_28 : decode cX10_guarded 28 = .ok (.iaload, 1) := by decide +kernel
theorem dX10_guarded_29 : decode cX10_guarded 29 = .ok (.ishl, 1) := by decide +kernel
theorem dX10_guarded_30 : decode cX10_guarded 30 = .ok (.ior, 1) := by decide +kernel
theorem dX10_guarded_31 : decode cX10_guarded 31 = .ok (.istore_n 1, 1) := by decide +kernel
theorem dX10_guarded_32 : decode cX10_guarded 32 = .ok (.iinc 2 1, 3) := by decide +kernel
theorem dX10_guarded_35 : decode cX10_guarded 35 = .ok (.goto (-31), 3) := by decide +kernel
theorem dX10_guarded_38 : decode cX10_guarded 38 = .ok (.iload_n 1, 1) := by decide +kernel
theorem dX10_guarded_39 : decode cX10_guarded 39 = .ok (.ireturn, 1) := by decide +kernel
theorem dX10_place_0 : decode cX10_place 0 = .ok (.iload_n 1, 1) := by decide +kernel
theorem dX10_place_1 : decode cX10_place 1 = .ok (.iconst 0, 1) := by decide +kernel
theorem dX10_place_2 : decode cX10_place 2 = .ok (.bipush 15, 2) := by decide +kernel
theorem dX10_place_4 : decode cX10_place 4 = .ok (.invokestatic 112, 3) := by decide +kernel
theorem dX10_place_7 : decode cX10_place 7 = .ok (.ifCond .eq 24, 3) := by decide +kernel
theorem dX10_place_10 : decode cX10_place 10 = .ok (.iload_n 2, 1) := by decide +kernel
theorem dX10_place_11 : decode cX10_place 11 = .ok (.iconst 0, 1) := by decide +kernel
theorem dX10_place_12 : decode cX10_place 12 = .ok (.bipush 99, 2) := by decide +kernel
theorem dX10_place_14 : decode cX10_place 14 = .ok (.invokestatic 112, 3) := by decide +kernel
theorem dX10_place_17 : decode cX10_place 17 = .ok (.ifCond .eq 14, 3) := by decide +kernel
theorem dX10_place_20 : decode cX10_place 20 = .ok (.iload_n 3, 1) := by decide +kernel
theorem dX10_place_21 : decode cX10_place 21 = .ok (.iconst 0, 1) := by decide +kernel
theorem dX10_place_22 : decode cX10_place 22 = .ok (.sipush 999, 3) := by decide +kernel
theorem dX10_place_25 : decode cX10_place 25 = .ok (.invokestatic 112, 3) := by decide +kernel
theorem dX10_place_28 : decode cX10_place 28 = .ok (.ifCond .ne 5, 3) := by decide +kernel
theorem dX10_place_31 : decode cX10_place 31 = .ok (.iconst 0, 1) := by decide +kernel
theorem dX10_place_32 : decode cX10_place 32 = .ok (.ireturn, 1) := by decide +kernel
theorem dX10_place_33 : decode cX10_place 33 = .ok (.aload_n 0, 1) := by decide +kernel
theorem dX10_place_34 : decode cX10_place 34 = .ok (.aload_n 0, 1) := by decide +kernel
theorem dX10_place_35 : decode cX10_place 35 = .ok (.getfield 116, 3) := by decide +kernel
theorem dX10_place_38 : decode cX10_place 38 = .ok (.iconst 1, 1) := by decide +kernel
theorem dX10_place_39 : decode cX10_place 39 = .ok (.iload_n 1, 1) := by decide +kernel
theorem dX10_place_40 : decode cX10_place 40 = .ok (.ishl, 1) := by decide +kernel
theorem dX10_place_41 : decode cX10_place 41 = .ok (.ior, 1) := by decide +kernel
theorem dX10_place_42 : decode cX10_place 42 = .ok (.putfield 116, 3) := by decide +kernel
theorem dX10_place_45 : decode cX10_place 45 = .ok (.aload_n 0, 1) := by decide +kernel
theorem dX10_place_46 : decode cX10_place 46 = .ok (.getfield 7, 3) := by decide +kernel
theorem dX10_place_49 : decode cX10_place 49 = .ok (.iconst 0, 1) := by decide +kernel
theorem dX10_place_50 : decode cX10_place 50 = .ok (.iload_n 1, 1) := by decide +kernel
theorem dX10_place_51 : decode cX10_place 51 = .ok (.iadd, 1) := by decide +kernel
theorem dX10_place_52 : decode cX10_place 52 = .ok (.iload_n 2, 1) := by decide +kernel
theorem dX10_place_53 : decode cX10_place 53 = .ok (.iastore, 1) := by decide +kernel
theorem dX10_place_54 : decode cX10_place 54 = .ok (.aload_n 0, 1) := by decide +kernel
theorem dX10_place_55 : decode cX10_place 55 = .ok (.getfield 7, 3) := by decide +kernel
theorem dX10_place_58 : decode cX10_place 58 = .ok (.bipush 16, 2) := by decide +kernel
theorem dX10_place_60 : decode cX10_place 60 = .ok (.iload_n 1, 1) := by decide +kernel
theorem dX10_place_61 : decode cX10_place 61 = .ok (.iadd, 1) := by decide +kernel
theorem dX10_place_62 : decode cX10_place 62 = .ok (.iload_n 3, 1) := by decide +kernel
theorem dX10_place_63 : decode cX10_place 63 = .ok (.iastore, 1) := by decide +kernel
theorem dX10_place_64 : decode cX10_place 64 = .ok (.iconst 1, 1) := by decide +kernel
theorem dX10_place_65 : decode cX10_place 65 = .ok (.ireturn, 1) := by decide +kernel
theorem dX10_constable_0 : decode cX10_constable 0 = .ok (.iload_n 1, 1) := by decide +kernel
theorem dX10_constable_1 : decode cX10_constable 1 = .ok (.iconst 0, 1) := by decide +kernel
theorem dX10_constable_2 : decode cX10_constable 2 = .ok (.bipush 7, 2) := by decide +kernel
theorem dX10_constable_4 : decode cX10_constable 4 = .ok (.invokestatic 112, 3) := by decide +kernel
theorem dX10_constable_7 : decode cX10_constable 7 = .ok (.ifCond .eq 11, 3) := by decide +kernel
theorem dX10_constable_10 : decode cX10_constable 10 = .ok (.aload_n 0, 1) := by decide +kernel
theorem dX10_constable_11 : decode cX10_constable 11 = .ok (.iload_n 2, 1) := by decide +kernel
theorem dX10_constable_12 : decode cX10_constable 12 = .ok (.invokevirtual 128, 3) := by decide +kernel
theorem dX10_constable_15 : decode cX10_constable 15 = .ok (.ifCond .ne 5, 3) := by decide +kernel
theorem dX10_constable_18 : decode cX10_constable 18 = .ok (.iconst 0, 1) := by decide +kernel
theorem dX10_constable_19 : decode cX10_constable 19 = .ok (.ireturn, 1) := by decide +kernel
theorem dX10_constable_20 : decode cX10_constable 20 = .ok (.aload_n 0, 1) := by decide +kernel
theorem dX10_constable_21 : decode cX10_constable 21 = .ok (.getfield 7, 3) := by decide +kernel
theorem dX10_constable_24 : decode cX10_constable 24 = .ok (.bipush 48, 2) := by decide +kernel
theorem dX10_constable_26 : decode cX10_constable 26 = .ok (.iload_n 1, 1) := by decide +kernel
theorem dX10_constable_27 : decode cX10_constable 27 = .ok (.iadd, 1) := by decide +kernel
theorem dX10_constable_28 : decode cX10_constable 28 = .ok (.iconst 1, 1) := by decide +kernel
theorem dX10_constable_29 : decode cX10_constable 29 = .ok (.iastore, 1) := by decide +kernel
theorem dX10_constable_30 : decode cX10_constable 30 = .ok (.aload_n 0, 1) := by decide +kernel
theorem dX10_constable_31 : decode cX10_constable 31 = .ok (.getfield 7, 3) := by decide +kernel
theorem dX10_constable_34 : decode cX10_constable 34 = .ok (.bipush 56, 2) := by decide +kernel
theorem dX10_constable_36 : decode cX10_constable 36 = .ok (.iload_n 1, 1) := by decide +kernel
theorem dX10_constable_37 : decode cX10_constable 37 = .ok (.iadd, 1) := by decide +kernel
theorem dX10_constable_38 : decode cX10_constable 38 = .ok (.iload_n 2, 1) := by decide +kernel
theorem dX10_constable_39 : decode cX10_constable 39 = .ok (.iastore, 1) := by decide +kernel
theorem dX10_constable_40 : decode cX10_constable 40 = .ok (.aload_n 0, 1) := by decide +kernel
theorem dX10_constable_41 : decode cX10_constable 41 = .ok (.getfield 7, 3) := by decide +kernel
theorem dX10_constable_44 : decode cX10_constable 44 = .ok (.bipush 64, 2) := by decide +kernel
theorem dX10_constable_46 : decode cX10_constable 46 = .ok (.iload_n 1, 1) := by decide +kernel
theorem dX10_constable_47 : decode cX10_constable 47 = .ok (.iadd, 1) := by decide +kernel
theorem dX10_constable_48 : decode cX10_constable 48 = .ok (.iconst 0, 1) := by decide +kernel
theorem dX10_constable_49 : decode cX10_constable 49 = .ok (.iastore, 1) := by decide +kernel
theorem dX10_constable_50 : decode cX10_constable 50 = .ok (.iconst 1, 1) := by decide +kernel
theorem dX10_constable_51 : decode cX10_constable 51 = .ok (.ireturn, 1) := by decide +kernel
theorem dX10_types_0 : decode cX10_types 0 = .ok (.iconst 3, 1) := by decide +kernel
theorem dX10_types_1 : decode cX10_types 1 = .ok (.istore_n 2, 1) := by decide +kernel
theorem dX10_types_2 : decode cX10_types 2 = .ok (.iload_n 2, 1) := by decide +kernel
theorem dX10_types_3 : decode cX10_types 3 = .ok (.ifCond .lt 35, 3) := by decide +kernel
theorem dX10_types_6 : decode cX10_types 6 = .ok (.aload_n 0, 1) := by decide +kernel
theorem dX10_types_7 : decode cX10_types 7 = .ok (.getfield 28, 3) := by decide +kernel
theorem dX10_types_10 : decode cX10_types 10 = .ok (.aload_n 0, 1) := by decide +kernel
theorem dX10_types_11 : decode cX10_types 11 = .ok (.getfield 131, 3) := by decide +kernel
theorem dX10_types_14 : decode cX10_types 14 = .ok (.iload_n 1, 1) := by decide +kernel
theorem dX10_types_15 : decode cX10_types 15 = .ok (.bipush 8, 2) := by decide +kernel
theorem dX10_types_17 : decode cX10_types 17 = .ok (.iload_n 2, 1) := by decide +kernel
theorem dX10_types_18 : decode cX10_types 18 = .ok (.imul, 1) := by decide +kernel
theorem dX10_types_19 : decode cX10_types 19 = .ok (.ishr, 1) := by decide +kernel
theorem dX10_types_20 : decode cX10_types 20 = .ok (.i2b, 1) := by decide +kernel
theorem dX10_types_21 : decode cX10_types 21 = .ok (.bastore, 1) := by decide +kernel
theorem dX10_types_22 : decode cX10_types 22 = .ok (.aload_n 0, 1) := by decide +kernel
theorem dX10_types_23 : decode cX10_types 23 = .ok (.aload_n 0, 1) := by decide +kernel
theorem dX10_types_24 : decode cX10_types 24 = .ok (.getfield 131, 3) := by decide +kernel
theorem dX10_types_27 : decode cX10_types 27 = .ok (.iconst 1, 1) := by decide +kernel
theorem dX10_types_28 : decode cX10_types 28 = .ok (.iadd, 1) := by decide +kernel
theorem dX10_types_29 : decode cX10_types 29 = .ok (.putfield 131, 3) := by decide +kernel
theorem dX10_types_32 : decode cX10_types 32 = .ok (.iinc 2 (-1), 3) := by decide +kernel
theorem dX10_types_35 : decode cX10_types 35 = .ok (.goto (-33), 3) := by decide +kernel
theorem dX10_types_38 : decode cX10_types 38 = .ok (.return_, 1) := by decide +kernel
theorem dX10_feed_0 : decode cX10_feed 0 = .ok (.aload_n 0, 1) := by decide +kernel
theorem dX10_feed_1 : decode cX10_feed 1 = .ok (.getfield 131, 3) := by decide +kernel
theorem dX10_feed_4 : decode cX10_feed 4 = .ok (.bipush 20, 2) := by decide +kernel
theorem dX10_feed_6 : decode cX10_feed 6 = .ok (.iadd, 1) := by decide +kernel
theorem dX10_feed_7 : decode cX10_feed 7 = .ok (.sipush 260, 3) := by decide +kernel
theorem dX10_feed_10 : decode cX10_feed 10 = .ok (.if_icmp .le 5, 3) := by decide +kernel
theorem dX10_feed_13 : decode cX10_feed 13 = .ok (.iconst (-1), 1) := by decide +kernel
theorem dX10_feed_14 : decode cX10_feed 14 = .ok (.ireturn, 1) := by decide +kernel
theorem dX10_feed_15 : decode cX10_feed 15 = .ok (.aload_n 0, 1) := by decide +kernel
theorem dX10_feed_16 : decode cX10_feed 16 = .ok (.iload_n 1, 1) := by decide +kernel
theorem dX10_feed_17 : decode cX10_feed 17 = .ok (.invokevirtual 134, 3) := by decide +kernel
theorem dX10_feed_20 : decode cX10_feed 20 = .ok (.aload_n 0, 1) := by decide +kernel
theorem dX10_feed_21 : decode cX10_feed 21 = .ok (.iload_n 2, 1) := by decide +kernel
theorem dX10_feed_22 : decode cX10_feed 22 = .ok (.invokevirtual 134, 3) := by decide +kernel
theorem dX10_feed_25 : decode cX10_feed 25 = .ok (.aload_n 0, 1) := by decide +kernel
theorem dX10_feed_26 : decode cX10_feed 26 = .ok (.iload_n 3, 1) := by decide +kernel
theorem dX10_feed_27 : decode cX10_feed 27 = .ok (.invokevirtual 134, 3) := by decide +kernel
theorem dX10_feed_30 : decode cX10_feed 30 = .ok (.aload_n 0, 1) := by decide +kernel
theorem dX10_feed_31 : decode cX10_feed 31 = .ok (.iload 4, 2) := by decide +kernel
theorem dX10_feed_33 : decode cX10_feed 33 = .ok (.invokevirtual 134, 3) := by decide +kernel
theorem dX10_feed_36 : decode cX10_feed 36 = .ok (.aload_n 0, 1) := by decide +kernel
theorem dX10_feed_37 : decode cX10_feed 37 = .ok (.iload 5, 2) := by decide +kernel
theorem dX10_feed_39 : decode cX10_feed 39 = .ok (.invokevirtual 134, 3) := by decide +kernel
theorem dX10_feed_42 : decode cX10_feed 42 = .ok (.aload_n 0, 1) := by decide +kernel
theorem dX10_feed_43 : decode cX10_feed 43 = .ok (.getfield 131, 3) := by decide +kernel
theorem dX10_feed_46 : decode cX10_feed 46 = .ok (.ireturn, 1) := by decide +kernel
theorem dX10_octet_0 : decode cX10_octet 0 = .ok (.aload_n 0, 1) := by decide +kernel
theorem dX10_octet_1 : decode cX10_octet 1 = .ok (.getfield 28, 3) := by decide +kernel
theorem dX10_octet_4 : decode cX10_octet 4 = .ok (.iload_n 1, 1) := by decide +kernel
theorem dX10_octet_5 : decode cX10_octet 5 = .ok (.baload, 1) := by decide +kernel
theorem dX10_octet_6 : decode cX10_octet 6 = .ok (.sipush 255, 3) := by decide +kernel
theorem dX10_octet_9 : decode cX10_octet 9 = .ok (.iand, 1) := by decide +kernel
theorem dX10_octet_10 : decode cX10_octet 10 = .ok (.ireturn, 1) := by decide +kernel
theorem dX10_here_0 : decode cX10_here 0 = .ok (.aload_n 0, 1) := by decide +kernel
theorem dX10_here_1 : decode cX10_here 1 = .ok (.getfield 138, 3) := by decide +kernel
theorem dX10_here_4 : decode cX10_here 4 = .ok (.aload_n 0, 1) := by decide +kernel
theorem dX10_here_5 : decode cX10_here 5 = .ok (.getfield 141, 3) := by decide +kernel
theorem dX10_here_8 : decode cX10_here 8 = .ok (.if_icmp .ge 19, 3) := by decide +kernel
theorem dX10_here_11 : decode cX10_here 11 = .ok (.aload_n 0, 1) := by decide +kernel
theorem dX10_here_12 : decode cX10_here 12 = .ok (.getfield 28, 3) := by decide +kernel
theorem dX10_here_15 : decode cX10_here 15 = .ok (.aload_n 0, 1) := by decide +kernel
theorem dX10_here_16 : decode cX10_here 16 = .ok (.getfield 138, 3) := by decide +kernel
theorem dX10_here_19 : decode cX10_here 19 = .ok (.baload, 1) := by decide +kernel
theorem dX10_here_20 : decode cX10_here 20 = .ok (.sipush 255, 3) := by decide +kernel
theorem dX10_here_23 : decode cX10_here 23 = .ok (.iand, 1) := by decide +kernel
theorem dX10_here_24 : decode cX10_here 24 = .ok (.goto 4, 3) := by decide +kernel
theorem dX10_here_27 : decode cX10_here 27 = .ok (.iconst (-1), 1) := by decide +kernel
theorem dX10_here_28 : decode cX10_here 28 = .ok (.ireturn, 1) := by decide +kernel
theorem dX10_isDigit_0 : decode cX10_isDigit 0 = .ok (.aload_n 0, 1) := by decide +kernel
theorem dX10_isDigit_1 : decode cX10_isDigit 1 = .ok (.invokevirtual 144, 3) := by decide +kernel
theorem dX10_isDigit_4 : decode cX10_isDigit 4 = .ok (.bipush 48, 2) := by decide +kernel
theorem dX10_isDigit_6 : decode cX10_isDigit 6 = .ok (.if_icmp .lt 16, 3) := by decide +kernel
theorem dX10_isDigit_9 : decode cX10_isDigit 9 = .ok (.aload_n 0, 1) := by decide +kernel
theorem dX10_isDigit_10 : decode cX10_isDigit 10 = .ok (.invokevirtual 144, 3) := by decide +kernel
theorem dX10_isDigit_13 : decode cX10_isDigit 13 = .ok (.bipush 57, 2) := by decide +kernel
theorem dX10_isDigit_15 : decode cX10_isDigit 15 = .ok (.if_icmp .gt 7, 3) := by decide +kernel
theorem dX10_isDigit_18 : decode cX10_isDigit 18 = .ok (.iconst 1, 1) := by decide +kernel
theorem dX10_isDigit_19 : decode cX10_isDigit 19 = .ok (.goto 4, 3) := by decide +kernel
theorem dX10_isDigit_22 : decode cX10_isDigit 22 = .ok (.iconst 0, 1) := by decide +kernel
theorem dX10_isDigit_23 : decode cX10_isDigit 23 = .ok (.ireturn, 1) := by decide +kernel
theorem dX10_wrongAt_0 : decode cX10_wrongAt 0 = .ok (.aload_n 0, 1) := by decide +kernel
theorem dX10_wrongAt_1 : decode cX10_wrongAt 1 = .ok (.sipush (-1000), 3) := by decide +kernel
theorem dX10_wrongAt_4 : decode cX10_wrongAt 4 = .ok (.iload_n 1, 1) := by decide +kernel
theorem dX10_wrongAt_5 : decode cX10_wrongAt 5 = .ok (.imul, 1) := by decide +kernel
theorem dX10_wrongAt_6 : decode cX10_wrongAt 6 = .ok (.iload_n 2, 1) := by decide +kernel
theorem dX10_wrongAt_7 : decode cX10_wrongAt 7 = .ok (.isub, 1) := by decide +kernel
theorem dX10_wrongAt_8 : decode cX10_wrongAt 8 = .ok (.putfield 148, 3) := by decide +kernel
theorem dX10_wrongAt_11 : decode cX10_wrongAt 11 = .ok (.iconst 0, 1) := by decide +kernel
theorem dX10_wrongAt_12 : decode cX10_wrongAt 12 = .ok (.ireturn, 1) := by decide +kernel
theorem dX10_takes_0 : decode cX10_takes 0 = .ok (.aload_n 0, 1) := by decide +kernel
theorem dX10_takes_1 : decode cX10_takes 1 = .ok (.invokevirtual 144, 3) := by decide +kernel
theorem dX10_takes_4 : decode cX10_takes 4 = .ok (.iload_n 1, 1) := by decide +kernel
theorem dX10_takes_5 : decode cX10_takes 5 = .ok (.if_icmp .eq 13, 3) := by decide +kernel
theorem dX10_takes_8 : decode cX10_takes 8 = .ok (.aload_n 0, 1) := by decide +kernel
theorem dX10_takes_9 : decode cX10_takes 9 = .ok (.iconst 1, 1) := by decide +kernel
theorem dX10_takes_10 : decode cX10_takes 10 = .ok (.aload_n 0, 1) := by decide +kernel
theorem dX10_takes_11 : decode cX10_takes 11 = .ok (.getfield 138, 3) := by decide +kernel
theorem dX10_takes_14 : decode cX10_takes 14 = .ok (.invokevirtual 151, 3) := by decide +kernel
theorem dX10_takes_17 : decode cX10_takes 17 = .ok (.ireturn, 1) := by decide +kernel
theorem dX10_takes_18 : decode cX10_takes 18 = .ok (.aload_n 0, 1) := by decide +kernel
theorem dX10_takes_19 : decode cX10_takes 19 = .ok (.aload_n 0, 1) := by decide +kernel
theorem dX10_takes_20 : decode cX10_takes 20 = .ok (.getfield 138, 3) := by decide +kernel
theorem dX10_takes_23 : decode cX10_takes 23 = .ok (.iconst 1, 1) := by decide +kernel
theorem dX10_takes_24 : decode cX10_takes 24 = .ok (.iadd, 1) := by decide +kernel
theorem dX10_takes_25 : decode cX10_takes 25 = .ok (.putfield 138, 3) := by decide +kernel
theorem dX10_takes_28 : decode cX10_takes 28 = .ok (.iconst 1, 1) := by decide +kernel
theorem dX10_takes_29 : decode cX10_takes 29 = .ok (.ireturn, 1) := by decide +kernel
theorem dX10_readsNumber_0 : decode cX10_readsNumber 0 = .ok (.aload_n 0, 1) := by decide +kernel
theorem dX10_readsNumber_1 : decode cX10_readsNumber 1 = .ok (.getfield 138, 3) := by decide +kernel
theorem dX10_readsNumber_4 : decode cX10_readsNumber 4 = .ok (.istore_n 1, 1) := by decide +kernel
theorem dX10_readsNumber_5 : decode cX10_readsNumber 5 = .ok (.aload_n 0, 1) := by decide +kernel
theorem dX10_readsNumber_6 : decode cX10_readsNumber 6 = .ok (.iconst 0, 1) := by decide +kernel
theorem dX10_readsNumber_7 : decode cX10_readsNumber 7 = .ok (.putfield 154, 3) := by decide +kernel
theorem dX10_readsNumber_10 : decode cX10_readsNumber 10 = .ok (.aload_n 0, 1) := by decide +kernel
theorem dX10_readsNumber_11 : decode cX10_readsNumber 11 = .ok (.invokevirtual 157, 3) := by decide +kernel
theorem dX10_readsNumber_14 : decode cX10_readsNumber 14 = .ok (.ifCond .eq 55, 3) := by decide +kernel
theorem dX10_readsNumber_17 : decode cX10_readsNumber 17 = .ok (.aload_n 0, 1) := by decide +kernel
theorem dX10_readsNumber_18 : decode cX10_readsNumber 18 = .ok (.getfield 138, 3) := by decide +kernel
theorem dX10_readsNumber_21 : decode cX10_readsNumber 21 = .ok (.iload_n 1, 1) := by decide +kernel
theorem dX10_readsNumber_22 : decode cX10_readsNumber 22 = .ok (.iconst 5, 1) := by decide +kernel
theorem dX10_readsNumber_23 : decode cX10_readsNumber 23 = .ok (.iadd, 1) := by decide +kernel
theorem dX10_readsNumber_24 : decode cX10_readsNumber 24 = .ok (.if_icmp .ne 13, 3) := by decide +kernel
theorem dX10_readsNumber_27 : decode cX10_readsNumber 27 = .ok (.aload_n 0, 1) := by decide +kernel
theorem dX10_readsNumber_28 : decode cX10_readsNumber 28 = .ok (.iconst 2, 1) := by decide +kernel
theorem dX10_readsNumber_29 : decode cX10_readsNumber 29 = .ok (.aload_n 0, 1) := by decide +kernel
theorem dX10_readsNumber_30 : decode cX10_readsNumber 30 = .ok (.getfield 138, 3) := by decide +kernel
theorem dX10_readsNumber_33 : decode cX10_readsNumber 33 = .ok (.invokevirtual 151, 3) := by decide +kernel
theorem dX10_readsNumber_36 : decode cX10_readsNumber 36 = .ok (.ireturn, 1) := by decide +kernel
theorem dX10_readsNumber_37 : decode cX10_readsNumber 37 = .ok (.aload_n 0, 1) := by decide +kernel
theorem dX10_readsNumber_38 : decode cX10_readsNumber 38 = .ok (.bipush 10, 2) := by decide +kernel
theorem dX10_readsNumber_40 : decode cX10_readsNumber 40 = .ok (.aload_n 0, 1) := by decide +kernel
theorem dX10_readsNumber_41 : decode cX10_readsNumber 41 = .ok (.getfield 154, 3) := by decide +kernel
theorem dX10_readsNumber_44 : decode cX10_readsNumber 44 = .ok (.imul, 1) := by decide +kernel
theorem dX10_readsNumber_45 : decode cX10_readsNumber 45 = .ok (.aload_n 0, 1) := by decide +kernel
theorem dX10_readsNumber_46 : decode cX10_readsNumber 46 = .ok (.invokevirtual 144, 3) := by decide +kernel
theorem dX10_readsNumber_49 : decode cX10_readsNumber 49 = .ok (.iadd, 1) := by decide +kernel
theorem dX10_readsNumber_50 : decode cX10_readsNumber 50 = .ok (.bipush 48, 2) := by decide +kernel
theorem dX10_readsNumber_52 : decode cX10_readsNumber 52 = .ok (.isub, 1) := by decide +kernel
theorem dX10_readsNumber_53 : decode cX10_readsNumber 53 = .ok (.putfield 154, 3) := by decide +kernel
theorem dX10_readsNumber_56 : decode cX10_readsNumber 56 = .ok (.aload_n 0, 1) := by decide +kernel
theorem dX10_readsNumber_57 : decode cX10_readsNumber 57 = .ok (.aload_n 0, 1) := by decide +kernel
theorem dX10_readsNumber_58 : decode cX10_readsNumber 58 = .ok (.getfield 138, 3) := by decide +kernel
theorem dX10_readsNumber_61 : decode cX10_readsNumber 61 = .ok (.iconst 1, 1) := by decide +kernel
theorem dX10_readsNumber_62 : decode cX10_readsNumber 62 = .ok (.iadd, 1) := by decide +kernel
theorem dX10_readsNumber_63 : decode cX10_readsNumber 63 = .ok (.putfield 138, 3) := by decide +kernel
theorem dX10_readsNumber_66 : decode cX10_readsNumber 66 = .ok (.goto (-56), 3) := by decide +kernel
theorem dX10_readsNumber_69 : decode cX10_readsNumber 69 = .ok (.iconst 1, 1) := by decide +kernel
theorem dX10_readsNumber_70 : decode cX10_readsNumber 70 = .ok (.ireturn, 1) := by decide +kernel
theorem dX10_notes_0 : decode cX10_notes 0 = .ok (.aload_n 0, 1) := by decide +kernel
theorem dX10_notes_1 : decode cX10_notes 1 = .ok (.getfield 32, 3) := by decide +kernel
theorem dX10_notes_4 : decode cX10_notes 4 = .ok (.aload_n 0, 1) := by decide +kernel
theorem dX10_notes_5 : decode cX10_notes 5 = .ok (.getfield 161, 3) := by decide +kernel
theorem dX10_notes_8 : decode cX10_notes 8 = .ok (.ldc 86, 2) := by decide +kernel
theorem dX10_notes_10 : decode cX10_notes 10 = .ok (.iload_n 1, 1) := by decide +kernel
theorem dX10_notes_11 : decode cX10_notes 11 = .ok (.imul, 1) := by decide +kernel
theorem dX10_notes_12 : decode cX10_notes 12 = .ok (.iload_n 2, 1) := by decide +kernel
theorem dX10_notes_13 : decode cX10_notes 13 = .ok (.iadd, 1) := by decide +kernel
theorem dX10_notes_14 : decode cX10_notes 14 = .ok (.iastore, 1) := by decide +kernel
theorem dX10_notes_15 : decode cX10_notes 15 = .ok (.aload_n 0, 1) := by decide +kernel
theorem dX10_notes_16 : decode cX10_notes 16 = .ok (.aload_n 0, 1) := by decide +kernel
theorem dX10_notes_17 : decode cX10_notes 17 = .ok (.getfield 161, 3) := by decide +kernel
theorem dX10_notes_20 : decode cX10_notes 20 = .ok (.iconst 1, 1) := by decide +kernel
theorem dX10_notes_21 : decode cX10_notes 21 = .ok (.iadd, 1) := by decide +kernel
theorem dX10_notes_22 : decode cX10_notes 22 = .ok (.putfield 161, 3) := by decide +kernel
theorem dX10_notes_25 : decode cX10_notes 25 = .ok (.return_, 1) := by decide +kernel
theorem dX10_opens_0 : decode cX10_opens 0 = .ok (.aload_n 0, 1) := by decide +kernel
theorem dX10_opens_1 : decode cX10_opens 1 = .ok (.getfield 164, 3) := by decide +kernel
theorem dX10_opens_4 : decode cX10_opens 4 = .ok (.bipush 6, 2) := by decide +kernel
theorem dX10_opens_6 : decode cX10_opens 6 = .ok (.if_icmp .ne 13, 3) := by decide +kernel
theorem dX10_opens_9 : decode cX10_opens 9 = .ok (.aload_n 0, 1) := by decide +kernel
theorem dX10_opens_10 : decode cX10_opens 10 = .ok (.iconst 5, 1) := by decide +kernel
theorem dX10_opens_11 : decode cX10_opens 11 = .ok (.aload_n 0, 1) := by decide +kernel
theorem dX10_opens_12 : decode cX10_opens 12 = .ok (.getfield 138, 3) := by decide +kernel
theorem dX10_opens_15 : decode cX10_opens 15 = .ok (.invokevirtual 151, 3) := by decide +kernel
theorem dX10_opens_18 : decode cX10_opens 18 = .ok (.ireturn, 1) := by decide +kernel
theorem dX10_opens_19 : decode cX10_opens 19 = .ok (.aload_n 0, 1) := by decide +kernel
theorem dX10_opens_20 : decode cX10_opens 20 = .ok (.aload_n 0, 1) := by decide +kernel
theorem dX10_opens_21 : decode cX10_opens 21 = .ok (.getfield 164, 3) := by decide +kernel
theorem dX10_opens_24 : decode cX10_opens 24 = .ok (.iconst 1, 1) := by decide +kernel
theorem dX10_opens_25 : decode cX10_opens 25 = .ok (.iadd, 1) := by decide +kernel
theorem dX10_opens_26 : decode cX10_opens 26 = .ok (.putfield 164, 3) := by decide +kernel
theorem dX10_opens_29 : decode cX10_opens 29 = .ok (.aload_n 0, 1) := by decide +kernel
theorem dX10_opens_30 : decode cX10_opens 30 = .ok (.getfield 35, 3) := by decide +kernel
theorem dX10_opens_33 : decode cX10_opens 33 = .ok (.aload_n 0, 1) := by decide +kernel
theorem dX10_opens_34 : decode cX10_opens 34 = .ok (.getfield 167, 3) := by decide +kernel
theorem dX10_opens_37 : decode cX10_opens 37 = .ok (.ldc 86, 2) := by decide +kernel
theorem dX10_opens_39 : decode cX10_opens 39 = .ok (.iload_n 1, 1) := by decide +kernel
theorem dX10_opens_40 : decode cX10_opens 40 = .ok (.imul, 1) := by decide +kernel
theorem dX10_opens_41 : decode cX10_opens 41 = .ok (.iastore, 1) := by decide +kernel
theorem dX10_opens_42 : decode cX10_opens 42 = .ok (.aload_n 0, 1) := by decide +kernel
theorem dX10_opens_43 : decode cX10_opens 43 = .ok (.aload_n 0, 1) := by decide +kernel
theorem dX10_opens_44 : decode cX10_opens 44 = .ok (.getfield 167, 3) := by decide +kernel
theorem dX10_opens_47 : decode cX10_opens 47 = .ok (.iconst 1, 1) := by decide +kernel
theorem dX10_opens_48 : decode cX10_opens 48 = .ok (.iadd, 1) := by decide +kernel
theorem dX10_opens_49 : decode cX10_opens 49 = .ok (.putfield 167, 3) := by decide +kernel
theorem dX10_opens_52 : decode cX10_opens 52 = .ok (.aload_n 0, 1) := by decide +kernel
theorem dX10_opens_53 : decode cX10_opens 53 = .ok (.aload_n 0, 1) := by decide +kernel
theorem dX10_opens_54 : decode cX10_opens 54 = .ok (.getfield 138, 3) := by decide +kernel
theorem dX10_opens_57 : decode cX10_opens 57 = .ok (.iconst 1, 1) := by decide +kernel
theorem dX10_opens_58 : decode cX10_opens 58 = .ok (.iadd, 1) := by decide +kernel
theorem dX10_opens_59 : decode cX10_opens 59 = .ok (.putfield 138, 3) := by decide +kernel
theorem dX10_opens_62 : decode cX10_opens 62 = .ok (.iconst 1, 1) := by decide +kernel
theorem dX10_opens_63 : decode cX10_opens 63 = .ok (.ireturn, 1) := by decide +kernel
theorem dX10_waitTop_0 : decode cX10_waitTop 0 = .ok (.aload_n 0, 1) := by decide +kernel
theorem dX10_waitTop_1 : decode cX10_waitTop 1 = .ok (.getfield 167, 3) := by decide +kernel
theorem dX10_waitTop_4 : decode cX10_waitTop 4 = .ok (.ifCond .ne 7, 3) := by decide +kernel
theorem dX10_waitTop_7 : decode cX10_waitTop 7 = .ok (.iconst (-1), 1) := by decide +kernel
theorem dX10_waitTop_8 : decode cX10_waitTop 8 = .ok (.goto 17, 3) := by decide +kernel
theorem dX10_waitTop_11 : decode cX10_waitTop 11 = .ok (.aload_n 0, 1) := by decide +kernel
theorem dX10_waitTop_12 : decode cX10_waitTop 12 = .ok (.getfield 35, 3) := by decide +kernel
theorem dX10_waitTop_15 : decode cX10_waitTop 15 = .ok (.aload_n 0, 1) := by decide +kernel
theorem dX10_waitTop_16 : decode cX10_waitTop 16 = .ok (.getfield 167, 3) := by decide +kernel
theorem dX10_waitTop_19 : decode cX10_waitTop 19 = .ok (.iconst 1, 1) := by decide +kernel
theorem dX10_waitTop_20 : decode cX10_waitTop 20 = .ok (.isub, 1) := by decide +kernel
theorem dX10_waitTop_21 : decode cX10_waitTop 21 = .ok (.iaload, 1) := by decide +kernel
theorem dX10_waitTop_22 : decode cX10_waitTop 22 = .ok (.ldc 86, 2) := by decide +kernel
theorem dX10_waitTop_24 : decode cX10_waitTop 24 = .ok (.idiv, 1) := by decide +kernel
theorem dX10_waitTop_25 : decode cX10_waitTop 25 = .ok (.ireturn, 1) := by decide +kernel
theorem dX10_factOf_0 : decode cX10_factOf 0 = .ok (.iload_n 0, 1) := by decide +kernel
theorem dX10_factOf_1 : decode cX10_factOf 1 = .ok (.tableswitch 105 99 116 #[93, 102, 105, 105, 91, 99, 105, 105, 105, 97, 105, 95, 105, 87, 105, 105, 105, 89], 87) := by decide +kernel
theorem dX10_factOf_88 : decode cX10_factOf 88 = .ok (.iconst 0, 1) := by decide +kernel
theorem dX10_factOf_89 : decode cX10_factOf 89 = .ok (.ireturn, 1) := by decide +kernel
theorem dX10_factOf_90 : decode cX10_factOf 90 = .ok (.iconst 1, 1) := by decide +kernel
theorem dX10_factOf_91 : decode cX10_factOf 91 = .ok (.ireturn, 1) := by decide +kernel
theorem dX10_factOf_92 : decode cX10_factOf 92 = .ok (.iconst 2, 1) := by decide +kernel
theorem dX10_factOf_93 : decode cX10_factOf 93 = .ok (.ireturn, 1) := by decide +kernel
theorem dX10_factOf_94 : decode cX10_factOf 94 = .ok (.iconst 3, 1) := by decide +kernel
theorem dX10_factOf_95 : decode cX10_factOf 95 = .ok (.ireturn, 1) := by decide +kernel
theorem dX10_factOf_96 : decode cX10_factOf 96 = .ok (.iconst 4, 1) := by decide +kernel
theorem dX10_factOf_97 : decode cX10_factOf 97 = .ok (.ireturn, 1) := by decide +kernel
theorem dX10_factOf_98 : decode cX10_factOf 98 = .ok (.iconst 5, 1) := by decide +kernel
theorem dX10_factOf_99 : decode cX10_factOf 99 = .ok (.ireturn, 1) := by decide +kernel
theorem dX10_factOf_100 : decode cX10_factOf 100 = .ok (.bipush 6, 2) := by decide +kernel
theorem dX10_factOf_102 : decode cX10_factOf 102 = .ok (.ireturn, 1) := by decide +kernel
theorem dX10_factOf_103 : decode cX10_factOf 103 = .ok (.bipush 7, 2) := by decide +kernel
theorem dX10_factOf_105 : decode cX10_factOf 105 = .ok (.ireturn, 1) := by decide +kernel
theorem dX10_factOf_106 : decode cX10_factOf 106 = .ok (.iconst (-1), 1) := by decide +kernel
theorem dX10_factOf_107 : decode cX10_factOf 107 = .ok (.ireturn, 1) := by decide +kernel
theorem dX10_sumSign_0 : decode cX10_sumSign 0 = .ok (.iload_n 0, 1) := by decide +kernel
theorem dX10_sumSign_1 : decode cX10_sumSign 1 = .ok (.bipush 43, 2) := by decide +kernel
theorem dX10_sumSign_3 : decode cX10_sumSign 3 = .ok (.if_icmp .ne 7, 3) := by decide +kernel
theorem dX10_sumSign_6 : decode cX10_sumSign 6 = .ok (.iconst 2, 1) := by decide +kernel
theorem dX10_sumSign_7 : decode cX10_sumSign 7 = .ok (.goto 45, 3) := by decide +kernel
theorem dX10_sumSign_10 : decode cX10_sumSign 10 = .ok (.iload_n 0, 1) := by decide +kernel
theorem dX10_sumSign_11 : decode cX10_sumSign 11 = .ok (.bipush 45, 2) := by decide +kernel
theorem dX10_sumSign_13 : decode cX10_sumSign 13 = .ok (.if_icmp .ne 7, 3) := by decide +kernel
theorem dX10_sumSign_16 : decode cX10_sumSign 16 = .ok (.iconst 3, 1) := by decide +kernel
theorem dX10_sumSign_17 : decode cX10_sumSign 17 = .ok (.goto 35, 3) := by decide +kernel
theorem dX10_sumSign_20 : decode cX10_sumSign 20 = .ok (.iload_n 0, 1) := by decide +kernel
theorem dX10_sumSign_21 : decode cX10_sumSign 21 = .ok (.bipush 42, 2) := by decide +kernel
theorem dX10_sumSign_23 : decode cX10_sumSign 23 = .ok (.if_icmp .ne 7, 3) := by decide +kernel
theorem dX10_sumSign_26 : decode cX10_sumSign 26 = .ok (.iconst 4, 1) := by decide +kernel
theorem dX10_sumSign_27 : decode cX10_sumSign 27 = .ok (.goto 25, 3) := by decide +kernel
theorem dX10_sumSign_30 : decode cX10_sumSign 30 = .ok (.iload_n 0, 1) := by decide +kernel
theorem dX10_sumSign_31 : decode cX10_sumSign 31 = .ok (.bipush 47, 2) := by decide +kernel
theorem dX10_sumSign_33 : decode cX10_sumSign 33 = .ok (.if_icmp .ne 7, 3) := by decide +kernel
theorem dX10_sumSign_36 : decode cX10_sumSign 36 = .ok (.iconst 5, 1) := by decide +kernel
theorem dX10_sumSign_37 : decode cX10_sumSign 37 = .ok (.goto 15, 3) := by decide +kernel
theorem dX10_sumSign_40 : decode cX10_sumSign 40 = .ok (.iload_n 0, 1) := by decide +kernel
theorem dX10_sumSign_41 : decode cX10_sumSign 41 = .ok (.bipush 37, 2) := by decide +kernel
theorem dX10_sumSign_43 : decode cX10_sumSign 43 = .ok (.if_icmp .ne 8, 3) := by decide +kernel
theorem dX10_sumSign_46 : decode cX10_sumSign 46 = .ok (.bipush 6, 2) := by decide +kernel
theorem dX10_sumSign_48 : decode cX10_sumSign 48 = .ok (.goto 4, 3) := by decide +kernel
theorem dX10_sumSign_51 : decode cX10_sumSign 51 = .ok (.iconst (-1), 1) := by decide +kernel
theorem dX10_sumSign_52 : decode cX10_sumSign 52 = .ok (.ireturn, 1) := by decide +kernel
theorem dX10_closesSums_0 : decode cX10_closesSums 0 = .ok (.aload_n 0, 1) := by decide +kernel
theorem dX10_closesSums_1 : decode cX10_closesSums 1 = .ok (.invokevirtual 170, 3) := by decide +kernel
theorem dX10_closesSums_4 : decode cX10_closesSums 4 = .ok (.iconst 4, 1) := by decide +kernel
theorem dX10_closesSums_5 : decode cX10_closesSums 5 = .ok (.if_icmp .lt 12, 3) := by decide +kernel
theorem dX10_closesSums_8 : decode cX10_closesSums 8 = .ok (.aload_n 0, 1) := by decide +kernel
theorem dX10_closesSums_9 : decode cX10_closesSums 9 = .ok (.invokevirtual 170, 3) := by decide +kernel
theorem dX10_closesSums_12 : decode cX10_closesSums 12 = .ok (.bipush 6, 2) := by decide +kernel
theorem dX10_closesSums_14 : decode cX10_closesSums 14 = .ok (.if_icmp .le 23, 3) := by decide +kernel
theorem dX10_closesSums_17 : decode cX10_closesSums 17 = .ok (.iload_n 1, 1) := by decide +kernel
theorem dX10_closesSums_18 : decode cX10_closesSums 18 = .ok (.ifCond .eq 41, 3) := by decide +kernel
theorem dX10_closesSums_21 : decode cX10_closesSums 21 = .ok (.aload_n 0, 1) := by decide +kernel
theorem dX10_closesSums_22 : decode cX10_closesSums 22 = .ok (.invokevirtual 170, 3) := by decide +kernel
theorem dX10_closesSums_25 : decode cX10_closesSums 25 = .ok (.iconst 2, 1) := by decide +kernel
theorem dX10_closesSums_26 : decode cX10_closesSums 26 = .ok (.if_icmp .eq 11, 3) := by decide +kernel
theorem dX10_closesSums_29 : decode cX10_closesSums 29 = .ok (.aload_n 0, 1) := by decide +kernel
theorem dX10_closesSums_30 : decode cX10_closesSums 30 = .ok (.invokevirtual 170, 3) := by decide +kernel
theorem dX10_closesSums_33 : decode cX10_closesSums 33 = .ok (.iconst 3, 1) := by decide +kernel
theorem dX10_closesSums_34 : decode cX10_closesSums 34 = .ok (.if_icmp .ne 25, 3) := by decide +kernel
theorem dX10_closesSums_37 : decode cX10_closesSums 37 = .ok (.aload_n 0, 1) := by decide +kernel
theorem dX10_closesSums_38 : decode cX10_closesSums 38 = .ok (.aload_n 0, 1) := by decide +kernel
theorem dX10_closesSums_39 : decode cX10_closesSums 39 = .ok (.invokevirtual 170, 3) := by decide +kernel
theorem dX10_closesSums_42 : decode cX10_closesSums 42 = .ok (.iconst 0, 1) := by decide +kernel
theorem dX10_closesSums_43 : decode cX10_closesSums 43 = .ok (.invokevirtual 173, 3) := by decide +kernel
theorem dX10_closesSums_46 : decode cX10_closesSums 46 = .ok (.aload_n 0, 1) := by decide +kernel
theorem dX10_closesSums_47 : decode cX10_closesSums 47 = .ok (.aload_n 0, 1) := by decide +kernel
theorem dX10_closesSums_48 : decode cX10_closesSums 48 = .ok (.getfield 167, 3) := by decide +kernel
theorem dX10_closesSums_51 : decode cX10_closesSums 51 = .ok (.iconst 1, 1) := by decide +kernel
theorem dX10_closesSums_52 : decode cX10_closesSums 52 = .ok (.isub, 1) := by decide +kernel
theorem dX10_closesSums_53 : decode cX10_closesSums 53 = .ok (.putfield 167, 3) := by decide +kernel
theorem dX10_closesSums_56 : decode cX10_closesSums 56 = .ok (.goto (-56), 3) := by decide +kernel
theorem dX10_closesSums_59 : decode cX10_closesSums 59 = .ok (.return_, 1) := by decide +kernel
theorem dX10_readsFactor_0 : decode cX10_readsFactor 0 = .ok (.aload_n 0, 1) := by decide +kernel
theorem dX10_readsFactor_1 : decode cX10_readsFactor 1 = .ok (.invokevirtual 144, 3) := by decide +kernel
theorem dX10_readsFactor_4 : decode cX10_readsFactor 4 = .ok (.bipush 91, 2) := by decide +kernel
theorem dX10_readsFactor_6 : decode cX10_readsFactor 6 = .ok (.if_icmp .ne 14, 3) := by decide +kernel
theorem dX10_readsFactor_9 : decode cX10_readsFactor 9 = .ok (.aload_n 0, 1) := by decide +kernel
theorem dX10_readsFactor_10 : decode cX10_readsFactor 10 = .ok (.bipush 14, 2) := by decide +kernel
theorem dX10_readsFactor_12 : decode cX10_readsFactor 12 = .ok (.invokevirtual 177, 3) := by decide +kernel
theorem dX10_readsFactor_15 : decode cX10_readsFactor 15 = .ok (.ifCond .ne (-15), 3) := by decide +kernel
theorem dX10_readsFactor_18 : decode cX10_readsFactor 18 = .ok (.iconst 0, 1) := by decide +kernel
theorem dX10_readsFactor_19 : decode cX10_readsFactor 19 = .ok (.ireturn, 1) := by decide +kernel
theorem dX10_readsFactor_20 : decode cX10_readsFactor 20 = .ok (.aload_n 0, 1) := by decide +kernel
theorem dX10_readsFactor_21 : decode cX10_readsFactor 21 = .ok (.invokevirtual 157, 3) := by decide +kernel
theorem dX10_readsFactor_24 : decode cX10_readsFactor 24 = .ok (.ifCond .eq 23, 3) := by decide +kernel
theorem dX10_readsFactor_27 : decode cX10_readsFactor 27 = .ok (.aload_n 0, 1) := by decide +kernel
theorem dX10_readsFactor_28 : decode cX10_readsFactor 28 = .ok (.invokevirtual 180, 3) := by decide +kernel
theorem dX10_readsFactor_31 : decode cX10_readsFactor 31 = .ok (.ifCond .ne 5, 3) := by decide +kernel
theorem dX10_readsFactor_34 : decode cX10_readsFactor 34 = .ok (.iconst 0, 1) := by decide +kernel
theorem dX10_readsFactor_35 : decode cX10_readsFactor 35 = .ok (.ireturn, 1) := by decide +kernel
theorem dX10_readsFactor_36 : decode cX10_readsFactor 36 = .ok (.aload_n 0, 1) := by decide +kernel
theorem dX10_readsFactor_37 : decode cX10_readsFactor 37 = .ok (.iconst 0, 1) := by decide +kernel
theorem dX10_readsFactor_38 : decode cX10_readsFactor 38 = .ok (.aload_n 0, 1) := by decide +kernel
theorem dX10_readsFactor_39 : decode cX10_readsFactor 39 = .ok (.getfield 154, 3) := by decide +kernel
theorem dX10_readsFactor_42 : decode cX10_readsFactor 42 = .ok (.invokevirtual 173, 3) := by decide +kernel
theorem dX10_readsFactor_45 : decode cX10_readsFactor 45 = .ok (.iconst 1, 1) := by decide +kernel
theorem dX10_readsFactor_46 : decode cX10_readsFactor 46 = .ok (.ireturn, 1) := by decide +kernel
theorem dX10_readsFactor_47 : decode cX10_readsFactor 47 = .ok (.aload_n 0, 1) := by decide +kernel
theorem dX10_readsFactor_48 : decode cX10_readsFactor 48 = .ok (.invokevirtual 144, 3) := by decide +kernel
theorem dX10_readsFactor_51 : decode cX10_readsFactor 51 = .ok (.invokestatic 183, 3) := by decide +kernel
theorem dX10_readsFactor_54 : decode cX10_readsFactor 54 = .ok (.istore_n 1, 1) := by decide +kernel
theorem dX10_readsFactor_55 : decode cX10_readsFactor 55 = .ok (.iload_n 1, 1) := by decide +kernel
theorem dX10_readsFactor_56 : decode cX10_readsFactor 56 = .ok (.iconst (-1), 1) := by decide +kernel
theorem dX10_readsFactor_57 : decode cX10_readsFactor 57 = .ok (.if_icmp .ne 13, 3) := by decide +kernel
theorem dX10_readsFactor_60 : decode cX10_readsFactor 60 = .ok (.aload_n 0, 1) := by decide +kernel
theorem dX10_readsFactor_61 : decode cX10_readsFactor 61 = .ok (.iconst 1, 1) := by decide +kernel
theorem dX10_readsFactor_62 : decode cX10_readsFactor 62 = .ok (.aload_n 0, 1) := by decide +kernel
theorem dX10_readsFactor_63 : decode cX10_readsFactor 63 = .ok (.getfield 138, 3) := by decide +kernel
theorem dX10_readsFactor_66 : decode cX10_readsFactor 66 = .ok (.invokevirtual 151, 3) := by decide +kernel
theorem dX10_readsFactor_69 : decode cX10_readsFactor 69 = .ok (.ireturn, 1) := by decide +kernel
theorem dX10_readsFactor_70 : decode cX10_readsFactor 70 = .ok (.aload_n 0, 1) := by decide +kernel
theorem dX10_readsFactor_71 : decode cX10_readsFactor 71 = .ok (.iconst 1, 1) := by decide +kernel
theorem dX10_readsFactor_72 : decode cX10_readsFactor 72 = .ok (.iload_n 1, 1) := by decide +kernel
theorem dX10_readsFactor_73 : decode cX10_readsFactor 73 = .ok (.invokevirtual 173, 3) := by decide +kernel
theorem dX10_readsFactor_76 : decode cX10_readsFactor 76 = .ok (.aload_n 0, 1) := by decide +kernel
theorem dX10_readsFactor_77 : decode cX10_readsFactor 77 = .ok (.aload_n 0, 1) := by decide +kernel
theorem dX10_readsFactor_78 : decode cX10_readsFactor 78 = .ok (.getfield 138, 3) := by decide +kernel
theorem dX10_readsFactor_81 : decode cX10_readsFactor 81 = .ok (.iconst 1, 1) := by decide +kernel
theorem dX10_readsFactor_82 : decode cX10_readsFactor 82 = .ok (.iadd, 1) := by decide +kernel
theorem dX10_readsFactor_83 : decode cX10_readsFactor 83 = .ok (.putfield 138, 3) := by decide +kernel
theorem dX10_readsFactor_86 : decode cX10_readsFactor 86 = .ok (.iconst 1, 1) := by decide +kernel
theorem dX10_readsFactor_87 : decode cX10_readsFactor 87 = .ok (.ireturn, 1) := by decide +kernel
theorem dX10_hasOpenSum_0 : decode cX10_hasOpenSum 0 = .ok (.iload_n 1, 1) := by decide +kernel
theorem dX10_hasOpenSum_1 : decode cX10_hasOpenSum 1 = .ok (.istore_n 2, 1) := by decide +kernel
theorem dX10_hasOpenSum_2 : decode cX10_hasOpenSum 2 = .ok (.iload_n 2, 1) := by decide +kernel
theorem dX10_hasOpenSum_3 : decode cX10_hasOpenSum 3 = .ok (.aload_n 0, 1) := by decide +kernel
theorem dX10_hasOpenSum_4 : decode cX10_hasOpenSum 4 = .ok (.getfield 167, 3) := by decide +kernel
theorem dX10_hasOpenSum_7 : decode cX10_hasOpenSum 7 = .ok (.if_icmp .ge 25, 3) := by decide +kernel
theorem dX10_hasOpenSum_10 : decode cX10_hasOpenSum 10 = .ok (.aload_n 0, 1) := by decide +kernel
theorem dX10_hasOpenSum_11 : decode cX10_hasOpenSum 11 = .ok (.getfield 35, 3) := by decide +kernel
theorem dX10_hasOpenSum_14 : decode cX10_hasOpenSum 14 = .ok (.iload_n 2, 1) := by decide +kernel
theorem dX10_hasOpenSum_15 : decode cX10_hasOpenSum 15 = .ok (.iaload, 1) := by decide +kernel
theorem dX10_hasOpenSum_16 : decode cX10_hasOpenSum 16 = .ok (.ldc 86, 2) := by decide +kernel
theorem dX10_hasOpenSum_18 : decode cX10_hasOpenSum 18 = .ok (.idiv, 1) := by decide +kernel
theorem dX10_hasOpenSum_19 : decode cX10_hasOpenSum 19 = .ok (.bipush 14, 2) := by decide +kernel
theorem dX10_hasOpenSum_21 : decode cX10_hasOpenSum 21 = .ok (.if_icmp .ne 5, 3) := by decide +kernel
theorem dX10_hasOpenSum_24 : decode cX10_hasOpenSum 24 = .ok (.iconst 1, 1) := by decide +kernel
theorem dX10_hasOpenSum_25 : decode cX10_hasOpenSum 25 = .ok (.ireturn, 1) := by decide +kernel
theorem dX10_hasOpenSum_26 : decode cX10_hasOpenSum 26 = .ok (.iinc 2 1, 3) := by decide +kernel
theorem dX10_hasOpenSum_29 : decode cX10_hasOpenSum 29 = .ok (.goto (-27), 3) := by decide +kernel
theorem dX10_hasOpenSum_32 : decode cX10_hasOpenSum 32 = .ok (.iconst 0, 1) := by decide +kernel
theorem dX10_hasOpenSum_33 : decode cX10_hasOpenSum 33 = .ok (.ireturn, 1) := by decide +kernel
theorem dX10_readsSum_0 : decode cX10_readsSum 0 = .ok (.aload_n 0, 1) := by decide +kernel
theorem dX10_readsSum_1 : decode cX10_readsSum 1 = .ok (.getfield 167, 3) := by decide +kernel
theorem dX10_readsSum_4 : decode cX10_readsSum 4 = .ok (.istore_n 1, 1) := by decide +kernel
theorem dX10_readsSum_5 : decode cX10_readsSum 5 = .ok (.aload_n 0, 1) := by decide +kernel
theorem dX10_readsSum_6 : decode cX10_readsSum 6 = .ok (.invokevirtual 187, 3) := by decide +kernel
theorem dX10_readsSum_9 : decode cX10_readsSum 9 = .ok (.ifCond .ne 5, 3) := by decide +kernel
theorem dX10_readsSum_12 : decode cX10_readsSum 12 = .ok (.iconst 0, 1) := by decide +kernel
theorem dX10_readsSum_13 : decode cX10_readsSum 13 = .ok (.ireturn, 1) := by decide +kernel
theorem dX10_readsSum_14 : decode cX10_readsSum 14 = .ok (.aload_n 0, 1) := by decide +kernel
theorem dX10_readsSum_15 : decode cX10_readsSum 15 = .ok (.invokevirtual 144, 3) := by decide +kernel
theorem dX10_readsSum_18 : decode cX10_readsSum 18 = .ok (.invokestatic 190, 3) := by decide +kernel
theorem dX10_readsSum_21 : decode cX10_readsSum 21 = .ok (.istore_n 2, 1) := by decide +kernel
theorem dX10_readsSum_22 : decode cX10_readsSum 22 = .ok (.iload_n 2, 1) := by decide +kernel
theorem dX10_readsSum_23 : decode cX10_readsSum 23 = .ok (.iconst (-1), 1) := by decide +kernel
theorem dX10_readsSum_24 : decode cX10_readsSum 24 = .ok (.if_icmp .eq 59, 3) := by decide +kernel
theorem dX10_readsSum_27 : decode cX10_readsSum 27 = .ok (.aload_n 0, 1) := by decide +kernel
theorem dX10_readsSum_28 : decode cX10_readsSum 28 = .ok (.iload_n 2, 1) := by decide +kernel
theorem dX10_readsSum_29 : decode cX10_readsSum 29 = .ok (.iconst 4, 1) := by decide +kernel
theorem dX10_readsSum_30 : decode cX10_readsSum 30 = .ok (.if_icmp .ge 7, 3) := by decide +kernel
theorem dX10_readsSum_33 : decode cX10_readsSum 33 = .ok (.iconst 1, 1) := by decide +kernel
theorem dX10_readsSum_34 : decode cX10_readsSum 34 = .ok (.goto 4, 3) := by decide +kernel
theorem dX10_readsSum_37 : decode cX10_readsSum 37 = .ok (.iconst 0, 1) := by decide +kernel
theorem dX10_readsSum_38 : decode cX10_readsSum 38 = .ok (.invokevirtual 193, 3) := by decide +kernel
theorem dX10_readsSum_41 : decode cX10_readsSum 41 = .ok (.aload_n 0, 1) := by decide +kernel
theorem dX10_readsSum_42 : decode cX10_readsSum 42 = .ok (.getfield 35, 3) := by decide +kernel
theorem dX10_readsSum_45 : decode cX10_readsSum 45 = .ok (.aload_n 0, 1) := by decide +kernel
theorem dX10_readsSum_46 : decode cX10_readsSum 46 = .ok (.getfield 167, 3) := by decide +kernel
theorem dX10_readsSum_49 : decode cX10_readsSum 49 = .ok (.ldc 86, 2) := by decide +kernel
theorem dX10_readsSum_51 : decode cX10_readsSum 51 = .ok (.iload_n 2, 1) := by decide +kernel
theorem dX10_readsSum_52 : decode cX10_readsSum 52 = .ok (.imul, 1) := by decide +kernel
theorem dX10_readsSum_53 : decode cX10_readsSum 53 = .ok (.iastore, 1) := by decide +kernel
theorem dX10_readsSum_54 : decode cX10_readsSum 54 = .ok (.aload_n 0, 1) := by decide +kernel
theorem dX10_readsSum_55 : decode cX10_readsSum 55 = .ok (.aload_n 0, 1) := by decide +kernel
theorem dX10_readsSum_56 : decode cX10_readsSum 56 = .ok (.getfield 167, 3) := by decide +kernel
theorem dX10_readsSum_59 : decode cX10_readsSum 59 = .ok (.iconst 1, 1) := by decide +kernel
theorem dX10_readsSum_60 : decode cX10_readsSum 60 = .ok (.iadd, 1) := by decide +kernel
theorem dX10_readsSum_61 : decode cX10_readsSum 61 = .ok (.putfield 167, 3) := by decide +kernel
theorem dX10_readsSum_64 : decode cX10_readsSum 64 = .ok (.aload_n 0, 1) := by decide +kernel
theorem dX10_readsSum_65 : decode cX10_readsSum 65 = .ok (.aload_n 0, 1) := by decide +kernel
theorem dX10_readsSum_66 : decode cX10_readsSum 66 = .ok (.getfield 138, 3) := by decide +kernel
theorem dX10_readsSum_69 : decode cX10_readsSum 69 = .ok (.iconst 1, 1) := by decide +kernel
theorem dX10_readsSum_70 : decode cX10_readsSum 70 = .ok (.iadd, 1) := by decide +kernel
theorem dX10_readsSum_71 : decode cX10_readsSum 71 = .ok (.putfield 138, 3) := by decide +kernel
theorem dX10_readsSum_74 : decode cX10_readsSum 74 = .ok (.aload_n 0, 1) := by decide +kernel
theorem dX10_readsSum_75 : decode cX10_readsSum 75 = .ok (.invokevirtual 187, 3) := by decide +kernel
theorem dX10_readsSum_78 : decode cX10_readsSum 78 = .ok (.ifCond .ne 85, 3) := by decide +kernel
theorem dX10_readsSum_81 : decode cX10_readsSum 81 = .ok (.iconst 0, 1) := by decide +kernel
theorem dX10_readsSum_82 : decode cX10_readsSum 82 = .ok (.ireturn, 1) := by decide +kernel
theorem dX10_readsSum_83 : decode cX10_readsSum 83 = .ok (.aload_n 0, 1) := by decide +kernel
theorem dX10_readsSum_84 : decode cX10_readsSum 84 = .ok (.invokevirtual 144, 3) := by decide +kernel
theorem dX10_readsSum_87 : decode cX10_readsSum 87 = .ok (.bipush 93, 2) := by decide +kernel
theorem dX10_readsSum_89 : decode cX10_readsSum 89 = .ok (.if_icmp .ne 49, 3) := by decide +kernel
theorem dX10_readsSum_92 : decode cX10_readsSum 92 = .ok (.aload_n 0, 1) := by decide +kernel
theorem dX10_readsSum_93 : decode cX10_readsSum 93 = .ok (.iload_n 1, 1) := by decide +kernel
theorem dX10_readsSum_94 : decode cX10_readsSum 94 = .ok (.invokevirtual 197, 3) := by decide +kernel
theorem dX10_readsSum_97 : decode cX10_readsSum 97 = .ok (.ifCond .eq 41, 3) := by decide +kernel
theorem dX10_readsSum_100 : decode cX10_readsSum 100 = .ok (.aload_n 0, 1) := by decide +kernel
theorem dX10_readsSum_101 : decode cX10_readsSum 101 = .ok (.iconst 1, 1) := by decide +kernel
theorem dX10_readsSum_102 : decode cX10_readsSum 102 = .ok (.invokevirtual 193, 3) := by decide +kernel
theorem dX10_readsSum_105 : decode cX10_readsSum 105 = .ok (.aload_n 0, 1) := by decide +kernel
theorem dX10_readsSum_106 : decode cX10_readsSum 106 = .ok (.aload_n 0, 1) := by decide +kernel
theorem dX10_readsSum_107 : decode cX10_readsSum 107 = .ok (.getfield 167, 3) := by decide +kernel
theorem dX10_readsSum_110 : decode cX10_readsSum 110 = .ok (.iconst 1, 1) := by decide +kernel
theorem dX10_readsSum_111 : decode cX10_readsSum 111 = .ok (.isub, 1) := by decide +kernel
theorem dX10_readsSum_112 : decode cX10_readsSum 112 = .ok (.putfield 167, 3) := by decide +kernel
theorem dX10_readsSum_115 : decode cX10_readsSum 115 = .ok (.aload_n 0, 1) := by decide +kernel
theorem dX10_readsSum_116 : decode cX10_readsSum 116 = .ok (.aload_n 0, 1) := by decide +kernel
theorem dX10_readsSum_117 : decode cX10_readsSum 117 = .ok (.getfield 164, 3) := by decide +kernel
theorem dX10_readsSum_120 : decode cX10_readsSum 120 = .ok (.iconst 1, 1) := by decide +kernel
theorem dX10_readsSum_121 : decode cX10_readsSum 121 = .ok (.isub, 1) := by decide +kernel
theorem dX10_readsSum_122 : decode cX10_readsSum 122 = .ok (.putfield 164, 3) := by decide +kernel
theorem dX10_readsSum_125 : decode cX10_readsSum 125 = .ok (.aload_n 0, 1) := by decide +kernel
theorem dX10_readsSum_126 : decode cX10_readsSum 126 = .ok (.aload_n 0, 1) := by decide +kernel
theorem dX10_readsSum_127 : decode cX10_readsSum 127 = .ok (.getfield 138, 3) := by decide +kernel
theorem dX10_readsSum_130 : decode cX10_readsSum 130 = .ok (.iconst 1, 1) := by decide +kernel
theorem dX10_readsSum_131 : decode cX10_readsSum 131 = .ok (.iadd, 1) := by decide +kernel
theorem dX10_readsSum_132 : decode cX10_readsSum 132 = .ok (.putfield 138, 3) := by decide +kernel
theorem dX10_readsSum_135 : decode cX10_readsSum 135 = .ok (.goto 28, 3) := by decide +kernel
theorem dX10_readsSum_138 : decode cX10_readsSum 138 = .ok (.aload_n 0, 1) := by decide +kernel
theorem dX10_readsSum_139 : decode cX10_readsSum 139 = .ok (.iload_n 1, 1) := by decide +kernel
theorem dX10_readsSum_140 : decode cX10_readsSum 140 = .ok (.invokevirtual 197, 3) := by decide +kernel
theorem dX10_readsSum_143 : decode cX10_readsSum 143 = .ok (.ifCond .eq 13, 3) := by decide +kernel
theorem dX10_readsSum_146 : decode cX10_readsSum 146 = .ok (.aload_n 0, 1) := by decide +kernel
theorem dX10_readsSum_147 : decode cX10_readsSum 147 = .ok (.iconst 1, 1) := by decide +kernel
theorem dX10_readsSum_148 : decode cX10_readsSum 148 = .ok (.aload_n 0, 1) := by decide +kernel
theorem dX10_readsSum_149 : decode cX10_readsSum 149 = .ok (.getfield 138, 3) := by decide +kernel
theorem dX10_readsSum_152 : decode cX10_readsSum 152 = .ok (.invokevirtual 151, 3) := by decide +kernel
theorem dX10_readsSum_155 : decode cX10_readsSum 155 = .ok (.ireturn, 1) := by decide +kernel
theorem dX10_readsSum_156 : decode cX10_readsSum 156 = .ok (.aload_n 0, 1) := by decide +kernel
theorem dX10_readsSum_157 : decode cX10_readsSum 157 = .ok (.iconst 1, 1) := by decide +kernel
theorem dX10_readsSum_158 : decode cX10_readsSum 158 = .ok (.invokevirtual 193, 3) := by decide +kernel
theorem dX10_readsSum_161 : decode cX10_readsSum 161 = .ok (.iconst 1, 1) := by decide +kernel
theorem dX10_readsSum_162 : decode cX10_readsSum 162 = .ok (.ireturn, 1) := by decide +kernel
theorem dX10_readsSum_163 : decode cX10_readsSum 163 = .ok (.goto (-149), 3) := by decide +kernel
theorem dX10_endsPiece_0 : decode cX10_endsPiece 0 = .ok (.aload_n 0, 1) := by decide +kernel
theorem dX10_endsPiece_1 : decode cX10_endsPiece 1 = .ok (.invokevirtual 170, 3) := by decide +kernel
theorem dX10_endsPiece_4 : decode cX10_endsPiece 4 = .ok (.bipush 10, 2) := by decide +kernel
theorem dX10_endsPiece_6 : decode cX10_endsPiece 6 = .ok (.if_icmp .ne 33, 3) := by decide +kernel
theorem dX10_endsPiece_9 : decode cX10_endsPiece 9 = .ok (.aload_n 0, 1) := by decide +kernel
theorem dX10_endsPiece_10 : decode cX10_endsPiece 10 = .ok (.bipush 10, 2) := by decide +kernel
theorem dX10_endsPiece_12 : decode cX10_endsPiece 12 = .ok (.iconst 0, 1) := by decide +kernel
theorem dX10_endsPiece_13 : decode cX10_endsPiece 13 = .ok (.invokevirtual 173, 3) := by decide +kernel
theorem dX10_endsPiece_16 : decode cX10_endsPiece 16 = .ok (.aload_n 0, 1) := by decide +kernel
theorem dX10_endsPiece_17 : decode cX10_endsPiece 17 = .ok (.aload_n 0, 1) := by decide +kernel
theorem dX10_endsPiece_18 : decode cX10_endsPiece 18 = .ok (.getfield 167, 3) := by decide +kernel
theorem dX10_endsPiece_21 : decode cX10_endsPiece 21 = .ok (.iconst 1, 1) := by decide +kernel
theorem dX10_endsPiece_22 : decode cX10_endsPiece 22 = .ok (.isub, 1) := by decide +kernel
theorem dX10_endsPiece_23 : decode cX10_endsPiece 23 = .ok (.putfield 167, 3) := by decide +kernel
theorem dX10_endsPiece_26 : decode cX10_endsPiece 26 = .ok (.aload_n 0, 1) := by decide +kernel
theorem dX10_endsPiece_27 : decode cX10_endsPiece 27 = .ok (.aload_n 0, 1) := by decide +kernel
theorem dX10_endsPiece_28 : decode cX10_endsPiece 28 = .ok (.getfield 164, 3) := by decide +kernel
theorem dX10_endsPiece_31 : decode cX10_endsPiece 31 = .ok (.iconst 1, 1) := by decide +kernel
theorem dX10_endsPiece_32 : decode cX10_endsPiece 32 = .ok (.isub, 1) := by decide +kernel
theorem dX10_endsPiece_33 : decode cX10_endsPiece 33 = .ok (.putfield 164, 3) := by decide +kernel
theorem dX10_endsPiece_36 : decode cX10_endsPiece 36 = .ok (.goto (-36), 3) := by decide +kernel
theorem dX10_endsPiece_39 : decode cX10_endsPiece 39 = .ok (.return_, 1) := by decide +kernel
theorem dX10_lands_0 : decode cX10_lands 0 = .ok (.aload_n 0, 1) := by decide +kernel
theorem dX10_lands_1 : decode cX10_lands 1 = .ok (.invokevirtual 170, 3) := by decide +kernel
theorem dX10_lands_4 : decode cX10_lands 4 = .ok (.bipush 11, 2) := by decide +kernel
theorem dX10_lands_6 : decode cX10_lands 6 = .ok (.if_icmp .eq 16, 3) := by decide +kernel
theorem dX10_lands_9 : decode cX10_lands 9 = .ok (.iload_n 1, 1) := by decide +kernel
theorem dX10_lands_10 : decode cX10_lands 10 = .ok (.ifCond .eq 63, 3) := by decide +kernel
theorem dX10_lands_13 : decode cX10_lands 13 = .ok (.aload_n 0, 1) := by decide +kernel
theorem dX10_lands_14 : decode cX10_lands 14 = .ok (.invokevirtual 170, 3) := by decide +kernel
theorem dX10_lands_17 : decode cX10_lands 17 = .ok (.bipush 12, 2) := by decide +kernel
theorem dX10_lands_19 : decode cX10_lands 19 = .ok (.if_icmp .ne 54, 3) := by decide +kernel
theorem dX10_lands_22 : decode cX10_lands 22 = .ok (.aload_n 0, 1) := by decide +kernel
theorem dX10_lands_23 : decode cX10_lands 23 = .ok (.getfield 35, 3) := by decide +kernel
theorem dX10_lands_26 : decode cX10_lands 26 = .ok (.aload_n 0, 1) := by decide +kernel
theorem dX10_lands_27 : decode cX10_lands 27 = .ok (.getfield 167, 3) := by decide +kernel
theorem dX10_lands_30 : decode cX10_lands 30 = .ok (.iconst 1, 1) := by decide +kernel
theorem dX10_lands_31 : decode cX10_lands 31 = .ok (.isub, 1) := by decide +kernel
theorem dX10_lands_32 : decode cX10_lands 32 = .ok (.iaload, 1) := by decide +kernel
theorem dX10_lands_33 : decode cX10_lands 33 = .ok (.ldc 86, 2) := by decide +kernel
theorem dX10_lands_35 : decode cX10_lands 35 = .ok (.irem, 1) := by decide +kernel
theorem dX10_lands_36 : decode cX10_lands 36 = .ok (.istore_n 2, 1) := by decide +kernel
theorem dX10_lands_37 : decode cX10_lands 37 = .ok (.aload_n 0, 1) := by decide +kernel
theorem dX10_lands_38 : decode cX10_lands 38 = .ok (.getfield 32, 3) := by decide +kernel
theorem dX10_lands_41 : decode cX10_lands 41 = .ok (.iload_n 2, 1) := by decide +kernel
theorem dX10_lands_42 : decode cX10_lands 42 = .ok (.ldc 86, 2) := by decide +kernel
theorem dX10_lands_44 : decode cX10_lands 44 = .ok (.aload_n 0, 1) := by decide +kernel
theorem dX10_lands_45 : decode cX10_lands 45 = .ok (.getfield 32, 3) := by decide +kernel
theorem dX10_lands_48 : decode cX10_lands 48 = .ok (.iload_n 2, 1) := by decide +kernel
theorem dX10_lands_49 : decode cX10_lands 49 = .ok (.iaload, 1) := by decide +kernel
theorem dX10_lands_50 : decode cX10_lands 50 = .ok (.ldc 86, 2) := by decide +kernel
theorem dX10_lands_52 : decode cX10_lands 52 = .ok (.idiv, 1) := by decide +kernel
theorem dX10_lands_53 : decode cX10_lands 53 = .ok (.imul, 1) := by decide +kernel
theorem dX10_lands_54 : decode cX10_lands 54 = .ok (.aload_n 0, 1) := by decide +kernel
theorem dX10_lands_55 : decode cX10_lands 55 = .ok (.getfield 161, 3) := by decide +kernel
theorem dX10_lands_58 : decode cX10_lands 58 = .ok (.iadd, 1) := by decide +kernel
theorem dX10_lands_59 : decode cX10_lands 59 = .ok (.iastore, 1) := by decide +kernel
theorem dX10_lands_60 : decode cX10_lands 60 = .ok (.aload_n 0, 1) := by decide +kernel
theorem dX10_lands_61 : decode cX10_lands 61 = .ok (.aload_n 0, 1) := by decide +kernel
theorem dX10_lands_62 : decode cX10_lands 62 = .ok (.getfield 167, 3) := by decide +kernel
theorem dX10_lands_65 : decode cX10_lands 65 = .ok (.iconst 1, 1) := by decide +kernel
theorem dX10_lands_66 : decode cX10_lands 66 = .ok (.isub, 1) := by decide +kernel
theorem dX10_lands_67 : decode cX10_lands 67 = .ok (.putfield 167, 3) := by decide +kernel
theorem dX10_lands_70 : decode cX10_lands 70 = .ok (.goto (-70), 3) := by decide +kernel
theorem dX10_lands_73 : decode cX10_lands 73 = .ok (.return_, 1) := by decide +kernel
theorem dX10_jumps_0 : decode cX10_jumps 0 = .ok (.aload_n 0, 1) := by decide +kernel
theorem dX10_jumps_1 : decode cX10_jumps 1 = .ok (.getfield 35, 3) := by decide +kernel
theorem dX10_jumps_4 : decode cX10_jumps 4 = .ok (.aload_n 0, 1) := by decide +kernel
theorem dX10_jumps_5 : decode cX10_jumps 5 = .ok (.getfield 167, 3) := by decide +kernel
theorem dX10_jumps_8 : decode cX10_jumps 8 = .ok (.ldc 86, 2) := by decide +kernel
theorem dX10_jumps_10 : decode cX10_jumps 10 = .ok (.iload_n 1, 1) := by decide +kernel
theorem dX10_jumps_11 : decode cX10_jumps 11 = .ok (.imul, 1) := by decide +kernel
theorem dX10_jumps_12 : decode cX10_jumps 12 = .ok (.aload_n 0, 1) := by decide +kernel
theorem dX10_jumps_13 : decode cX10_jumps 13 = .ok (.getfield 161, 3) := by decide +kernel
theorem dX10_jumps_16 : decode cX10_jumps 16 = .ok (.iadd, 1) := by decide +kernel
theorem dX10_jumps_17 : decode cX10_jumps 17 = .ok (.iastore, 1) := by decide +kernel
theorem dX10_jumps_18 : decode cX10_jumps 18 = .ok (.aload_n 0, 1) := by decide +kernel
theorem dX10_jumps_19 : decode cX10_jumps 19 = .ok (.aload_n 0, 1) := by decide +kernel
theorem dX10_jumps_20 : decode cX10_jumps 20 = .ok (.getfield 167, 3) := by decide +kernel
theorem dX10_jumps_23 : decode cX10_jumps 23 = .ok (.iconst 1, 1) := by decide +kernel
theorem dX10_jumps_24 : decode cX10_jumps 24 = .ok (.iadd, 1) := by decide +kernel
theorem dX10_jumps_25 : decode cX10_jumps 25 = .ok (.putfield 167, 3) := by decide +kernel
theorem dX10_jumps_28 : decode cX10_jumps 28 = .ok (.aload_n 0, 1) := by decide +kernel
theorem dX10_jumps_29 : decode cX10_jumps 29 = .ok (.iload_n 1, 1) := by decide +kernel
theorem dX10_jumps_30 : decode cX10_jumps 30 = .ok (.iconst 0, 1) := by decide +kernel
theorem dX10_jumps_31 : decode cX10_jumps 31 = .ok (.invokevirtual 173, 3) := by decide +kernel
theorem dX10_jumps_34 : decode cX10_jumps 34 = .ok (.aload_n 0, 1) := by decide +kernel
theorem dX10_jumps_35 : decode cX10_jumps 35 = .ok (.aload_n 0, 1) := by decide +kernel
theorem dX10_jumps_36 : decode cX10_jumps 36 = .ok (.getfield 138, 3) := by decide +kernel
theorem dX10_jumps_39 : decode cX10_jumps 39 = .ok (.iconst 1, 1) := by decide +kernel
theorem dX10_jumps_40 : decode cX10_jumps 40 = .ok (.iadd, 1) := by decide +kernel
theorem dX10_jumps_41 : decode cX10_jumps 41 = .ok (.putfield 138, 3) := by decide +kernel
theorem dX10_jumps_44 : decode cX10_jumps 44 = .ok (.return_, 1) := by decide +kernel
theorem dX10_readsCompared_0 : decode cX10_readsCompared 0 = .ok (.aload_n 0, 1) := by decide +kernel
theorem dX10_readsCompared_1 : decode cX10_readsCompared 1 = .ok (.invokevirtual 200, 3) := by decide +kernel
theorem dX10_readsCompared_4 : decode cX10_readsCompared 4 = .ok (.ifCond .ne 5, 3) := by decide +kernel
theorem dX10_readsCompared_7 : decode cX10_readsCompared 7 = .ok (.iconst 0, 1) := by decide +kernel
theorem dX10_readsCompared_8 : decode cX10_readsCompared 8 = .ok (.ireturn, 1) := by decide +kernel
theorem dX10_readsCompared_9 : decode cX10_readsCompared 9 = .ok (.aload_n 0, 1) := by decide +kernel
theorem dX10_readsCompared_10 : decode cX10_readsCompared 10 = .ok (.invokevirtual 144, 3) := by decide +kernel
theorem dX10_readsCompared_13 : decode cX10_readsCompared 13 = .ok (.bipush 60, 2) := by decide +kernel
theorem dX10_readsCompared_15 : decode cX10_readsCompared 15 = .ok (.if_icmp .ne 8, 3) := by decide +kernel
theorem dX10_readsCompared_18 : decode cX10_readsCompared 18 = .ok (.bipush 7, 2) := by decide +kernel
theorem dX10_readsCompared_20 : decode cX10_readsCompared 20 = .ok (.goto 32, 3) := by decide +kernel
theorem dX10_readsCompared_23 : decode cX10_readsCompared 23 = .ok (.aload_n 0, 1) := by decide +kernel
theorem dX10_readsCompared_24 : decode cX10_readsCompared 24 = .ok (.invokevirtual 144, 3) := by decide +kernel
theorem dX10_readsCompared_27 : decode cX10_readsCompared 27 = .ok (.bipush 62, 2) := by decide +kernel
theorem dX10_readsCompared_29 : decode cX10_readsCompared 29 = .ok (.if_icmp .ne 8, 3) := by decide +kernel
theorem dX10_readsCompared_32 : decode cX10_readsCompared 32 = .ok (.bipush 8, 2) := by decide +kernel
theorem dX10_readsCompared_34 : decode cX10_readsCompared 34 = .ok (.goto 18, 3) := by decide +kernel
theorem dX10_readsCompared_37 : decode cX10_readsCompared 37 = .ok (.aload_n 0, 1) := by decide +kernel
theorem dX10_readsCompared_38 : decode cX10_readsCompared 38 = .ok (.invokevirtual 144, 3) := by decide +kernel
theorem dX10_readsCompared_41 : decode cX10_readsCompared 41 = .ok (.bipush 61, 2) := by decide +kernel
theorem dX10_readsCompared_43 : decode cX10_readsCompared 43 = .ok (.if_icmp .ne 8, 3) := by decide +kernel
theorem dX10_readsCompared_46 : decode cX10_readsCompared 46 = .ok (.bipush 9, 2) := by decide +kernel
theorem dX10_readsCompared_48 : decode cX10_readsCompared 48 = .ok (.goto 4, 3) := by decide +kernel
theorem dX10_readsCompared_51 : decode cX10_readsCompared 51 = .ok (.iconst (-1), 1) := by decide +kernel
theorem dX10_readsCompared_52 : decode cX10_readsCompared 52 = .ok (.istore_n 1, 1) := by decide +kernel
theorem dX10_readsCompared_53 : decode cX10_readsCompared 53 = .ok (.iload_n 1, 1) := by decide +kernel
theorem dX10_readsCompared_54 : decode cX10_readsCompared 54 = .ok (.iconst (-1), 1) := by decide +kernel
theorem dX10_readsCompared_55 : decode cX10_readsCompared 55 = .ok (.if_icmp .ne 13, 3) := by decide +kernel
theorem dX10_readsCompared_58 : decode cX10_readsCompared 58 = .ok (.aload_n 0, 1) := by decide +kernel
theorem dX10_readsCompared_59 : decode cX10_readsCompared 59 = .ok (.iconst 1, 1) := by decide +kernel
theorem dX10_readsCompared_60 : decode cX10_readsCompared 60 = .ok (.aload_n 0, 1) := by decide +kernel
theorem dX10_readsCompared_61 : decode cX10_readsCompared 61 = .ok (.getfield 138, 3) := by decide +kernel
theorem dX10_readsCompared_64 : decode cX10_readsCompared 64 = .ok (.invokevirtual 151, 3) := by decide +kernel
theorem dX10_readsCompared_67 : decode cX10_readsCompared 67 = .ok (.ireturn, 1) := by decide +kernel
theorem dX10_readsCompared_68 : decode cX10_readsCompared 68 = .ok (.aload_n 0, 1) := by decide +kernel
theorem dX10_readsCompared_69 : decode cX10_readsCompared 69 = .ok (.aload_n 0, 1) := by decide +kernel
theorem dX10_readsCompared_70 : decode cX10_readsCompared 70 = .ok (.getfield 138, 3) := by decide +kernel
theorem dX10_readsCompared_73 : decode cX10_readsCompared 73 = .ok (.iconst 1, 1) := by decide +kernel
theorem dX10_readsCompared_74 : decode cX10_readsCompared 74 = .ok (.iadd, 1) := by decide +kernel
theorem dX10_readsCompared_75 : decode cX10_readsCompared 75 = .ok (.putfield 138, 3) := by decide +kernel
theorem dX10_readsCompared_78 : decode cX10_readsCompared 78 = .ok (.aload_n 0, 1) := by decide +kernel
theorem dX10_readsCompared_79 : decode cX10_readsCompared 79 = .ok (.invokevirtual 200, 3) := by decide +kernel
theorem dX10_readsCompared_82 : decode cX10_readsCompared 82 = .ok (.ifCond .ne 5, 3) := by decide +kernel
theorem dX10_readsCompared_85 : decode cX10_readsCompared 85 = .ok (.iconst 0, 1) := by decide +kernel
theorem dX10_readsCompared_86 : decode cX10_readsCompared 86 = .ok (.ireturn, 1) := by decide +kernel
theorem dX10_readsCompared_87 : decode cX10_readsCompared 87 = .ok (.aload_n 0, 1) := by decide +kernel
theorem dX10_readsCompared_88 : decode cX10_readsCompared 88 = .ok (.iload_n 1, 1) := by decide +kernel
theorem dX10_readsCompared_89 : decode cX10_readsCompared 89 = .ok (.iconst 0, 1) := by decide +kernel
theorem dX10_readsCompared_90 : decode cX10_readsCompared 90 = .ok (.invokevirtual 173, 3) := by decide +kernel
theorem dX10_readsCompared_93 : decode cX10_readsCompared 93 = .ok (.aload_n 0, 1) := by decide +kernel
theorem dX10_readsCompared_94 : decode cX10_readsCompared 94 = .ok (.invokevirtual 203, 3) := by decide +kernel
theorem dX10_readsCompared_97 : decode cX10_readsCompared 97 = .ok (.iconst 1, 1) := by decide +kernel
theorem dX10_readsCompared_98 : decode cX10_readsCompared 98 = .ok (.ireturn, 1) := by decide +kernel
theorem dX10_readsCondition_0 : decode cX10_readsCondition 0 = .ok (.aload_n 0, 1) := by decide +kernel
theorem dX10_readsCondition_1 : decode cX10_readsCondition 1 = .ok (.invokevirtual 144, 3) := by decide +kernel
theorem dX10_readsCondition_4 : decode cX10_readsCondition 4 = .ok (.bipush 40, 2) := by decide +kernel
theorem dX10_readsCondition_6 : decode cX10_readsCondition 6 = .ok (.if_icmp .eq 13, 3) := by decide +kernel
theorem dX10_readsCondition_9 : decode cX10_readsCondition 9 = .ok (.aload_n 0, 1) := by decide +kernel
theorem dX10_readsCondition_10 : decode cX10_readsCondition 10 = .ok (.iconst 1, 1) := by decide +kernel
theorem dX10_readsCondition_11 : decode cX10_readsCondition 11 = .ok (.aload_n 0, 1) := by decide +kernel
theorem dX10_readsCondition_12 : decode cX10_readsCondition 12 = .ok (.getfield 138, 3) := by decide +kernel
theorem dX10_readsCondition_15 : decode cX10_readsCondition 15 = .ok (.invokevirtual 151, 3) := by decide +kernel
theorem dX10_readsCondition_18 : decode cX10_readsCondition 18 = .ok (.ireturn, 1) := by decide +kernel
theorem dX10_readsCondition_19 : decode cX10_readsCondition 19 = .ok (.aload_n 0, 1) := by decide +kernel
theorem dX10_readsCondition_20 : decode cX10_readsCondition 20 = .ok (.iconst 0, 1) := by decide +kernel
theorem dX10_readsCondition_21 : decode cX10_readsCondition 21 = .ok (.putfield 164, 3) := by decide +kernel
theorem dX10_readsCondition_24 : decode cX10_readsCondition 24 = .ok (.aload_n 0, 1) := by decide +kernel
theorem dX10_readsCondition_25 : decode cX10_readsCondition 25 = .ok (.iconst 0, 1) := by decide +kernel
theorem dX10_readsCondition_26 : decode cX10_readsCondition 26 = .ok (.putfield 167, 3) := by decide +kernel
theorem dX10_readsCondition_29 : decode cX10_readsCondition 29 = .ok (.aload_n 0, 1) := by decide +kernel
theorem dX10_readsCondition_30 : decode cX10_readsCondition 30 = .ok (.bipush 13, 2) := by decide +kernel
theorem dX10_readsCondition_32 : decode cX10_readsCondition 32 = .ok (.invokevirtual 177, 3) := by decide +kernel
theorem dX10_readsCondition_35 : decode cX10_readsCondition 35 = .ok (.ifCond .ne 5, 3) := by decide +kernel
theorem dX10_readsCondition_38 : decode cX10_readsCondition 38 = .ok (.iconst 0, 1) := by decide +kernel
theorem dX10_readsCondition_39 : decode cX10_readsCondition 39 = .ok (.ireturn, 1) := by decide +kernel
theorem dX10_readsCondition_40 : decode cX10_readsCondition 40 = .ok (.aload_n 0, 1) := by decide +kernel
theorem dX10_readsCondition_41 : decode cX10_readsCondition 41 = .ok (.invokevirtual 144, 3) := by decide +kernel
theorem dX10_readsCondition_44 : decode cX10_readsCondition 44 = .ok (.bipush 33, 2) := by decide +kernel
theorem dX10_readsCondition_46 : decode cX10_readsCondition 46 = .ok (.if_icmp .eq 12, 3) := by decide +kernel
theorem dX10_readsCondition_49 : decode cX10_readsCondition 49 = .ok (.aload_n 0, 1) := by decide +kernel
theorem dX10_readsCondition_50 : decode cX10_readsCondition 50 = .ok (.invokevirtual 144, 3) := by decide +kernel
theorem dX10_readsCondition_53 : decode cX10_readsCondition 53 = .ok (.bipush 40, 2) := by decide +kernel
theorem dX10_readsCondition_55 : decode cX10_readsCondition 55 = .ok (.if_icmp .ne 28, 3) := by decide +kernel
theorem dX10_readsCondition_58 : decode cX10_readsCondition 58 = .ok (.aload_n 0, 1) := by decide +kernel
theorem dX10_readsCondition_59 : decode cX10_readsCondition 59 = .ok (.aload_n 0, 1) := by decide +kernel
theorem dX10_readsCondition_60 : decode cX10_readsCondition 60 = .ok (.invokevirtual 144, 3) := by decide +kernel
theorem dX10_readsCondition_63 : decode cX10_readsCondition 63 = .ok (.bipush 33, 2) := by decide +kernel
theorem dX10_readsCondition_65 : decode cX10_readsCondition 65 = .ok (.if_icmp .ne 8, 3) := by decide +kernel
theorem dX10_readsCondition_68 : decode cX10_readsCondition 68 = .ok (.bipush 10, 2) := by decide +kernel
theorem dX10_readsCondition_70 : decode cX10_readsCondition 70 = .ok (.goto 5, 3) := by decide +kernel
theorem dX10_readsCondition_73 : decode cX10_readsCondition 73 = .ok (.bipush 13, 2) := by decide +kernel
theorem dX10_readsCondition_75 : decode cX10_readsCondition 75 = .ok (.invokevirtual 177, 3) := by decide +kernel
theorem dX10_readsCondition_78 : decode cX10_readsCondition 78 = .ok (.ifCond .ne (-38), 3) := by decide +kernel
theorem dX10_readsCondition_81 : decode cX10_readsCondition 81 = .ok (.iconst 0, 1) := by decide +kernel
theorem dX10_readsCondition_82 : decode cX10_readsCondition 82 = .ok (.ireturn, 1) := by decide +kernel
theorem dX10_readsCondition_83 : decode cX10_readsCondition 83 = .ok (.aload_n 0, 1) := by decide +kernel
theorem dX10_readsCondition_84 : decode cX10_readsCondition 84 = .ok (.invokevirtual 206, 3) := by decide +kernel
theorem dX10_readsCondition_87 : decode cX10_readsCondition 87 = .ok (.ifCond .ne 5, 3) := by decide +kernel
theorem dX10_readsCondition_90 : decode cX10_readsCondition 90 = .ok (.iconst 0, 1) := by decide +kernel
theorem dX10_readsCondition_91 : decode cX10_readsCondition 91 = .ok (.ireturn, 1) := by decide +kernel
theorem dX10_readsCondition_92 : decode cX10_readsCondition 92 = .ok (.aload_n 0, 1) := by decide +kernel
theorem dX10_readsCondition_93 : decode cX10_readsCondition 93 = .ok (.invokevirtual 144, 3) := by decide +kernel
theorem dX10_readsCondition_96 : decode cX10_readsCondition 96 = .ok (.bipush 41, 2) := by decide +kernel
theorem dX10_readsCondition_98 : decode cX10_readsCondition 98 = .ok (.if_icmp .ne 54, 3) := by decide +kernel
theorem dX10_readsCondition_101 : decode cX10_readsCondition 101 = .ok (.aload_n 0, 1) := by decide +kernel
theorem dX10_readsCondition_102 : decode cX10_readsCondition 102 = .ok (.iconst 1, 1) := by decide +kernel
theorem dX10_readsCondition_103 : decode cX10_readsCondition 103 = .ok (.invokevirtual 209, 3) := by decide +kernel
theorem dX10_readsCondition_106 : decode cX10_readsCondition 106 = .ok (.aload_n 0, 1) := by decide +kernel
theorem dX10_readsCondition_107 : decode cX10_readsCondition 107 = .ok (.aload_n 0, 1) := by decide +kernel
theorem dX10_readsCondition_108 : decode cX10_readsCondition 108 = .ok (.getfield 167, 3) := by decide +kernel
theorem dX10_readsCondition_111 : decode cX10_readsCondition 111 = .ok (.iconst 1, 1) := by decide +kernel
theorem dX10_readsCondition_112 : decode cX10_readsCondition 112 = .ok (.isub, 1) := by decide +kernel
theorem dX10_readsCondition_113 : decode cX10_readsCondition 113 = .ok (.putfield 167, 3) := by decide +kernel
theorem dX10_readsCondition_116 : decode cX10_readsCondition 116 = .ok (.aload_n 0, 1) := by decide +kernel
theorem dX10_readsCondition_117 : decode cX10_readsCondition 117 = .ok (.aload_n 0, 1) := by decide +kernel
theorem dX10_readsCondition_118 : decode cX10_readsCondition 118 = .ok (.getfield 164, 3) := by decide +kernel
theorem dX10_readsCondition_121 : decode cX10_readsCondition 121 = .ok (.iconst 1, 1) := by decide +kernel
theorem dX10_readsCondition_122 : decode cX10_readsCondition 122 = .ok (.isub, 1) := by decide +kernel
theorem dX10_readsCondition_123 : decode cX10_readsCondition 123 = .ok (.putfield 164, 3) := by decide +kernel
theorem dX10_readsCondition_126 : decode cX10_readsCondition 126 = .ok (.aload_n 0, 1) := by decide +kernel
theorem dX10_readsCondition_127 : decode cX10_readsCondition 127 = .ok (.aload_n 0, 1) := by decide +kernel
theorem dX10_readsCondition_128 : decode cX10_readsCondition 128 = .ok (.getfield 138, 3) := by decide +kernel
theorem dX10_readsCondition_131 : decode cX10_readsCondition 131 = .ok (.iconst 1, 1) := by decide +kernel
theorem dX10_readsCondition_132 : decode cX10_readsCondition 132 = .ok (.iadd, 1) := by decide +kernel
theorem dX10_readsCondition_133 : decode cX10_readsCondition 133 = .ok (.putfield 138, 3) := by decide +kernel
theorem dX10_readsCondition_136 : decode cX10_readsCondition 136 = .ok (.aload_n 0, 1) := by decide +kernel
theorem dX10_readsCondition_137 : decode cX10_readsCondition 137 = .ok (.getfield 167, 3) := by decide +kernel
theorem dX10_readsCondition_140 : decode cX10_readsCondition 140 = .ok (.ifCond .ne 5, 3) := by decide +kernel
theorem dX10_readsCondition_143 : decode cX10_readsCondition 143 = .ok (.iconst 1, 1) := by decide +kernel
theorem dX10_readsCondition_144 : decode cX10_readsCondition 144 = .ok (.ireturn, 1) := by decide +kernel
theorem dX10_readsCondition_145 : decode cX10_readsCondition 145 = .ok (.aload_n 0, 1) := by decide +kernel
theorem dX10_readsCondition_146 : decode cX10_readsCondition 146 = .ok (.invokevirtual 203, 3) := by decide +kernel
theorem dX10_readsCondition_149 : decode cX10_readsCondition 149 = .ok (.goto (-57), 3) := by decide +kernel
theorem dX10_readsCondition_152 : decode cX10_readsCondition 152 = .ok (.aload_n 0, 1) := by decide +kernel
theorem dX10_readsCondition_153 : decode cX10_readsCondition 153 = .ok (.invokevirtual 144, 3) := by decide +kernel
theorem dX10_readsCondition_156 : decode cX10_readsCondition 156 = .ok (.bipush 38, 2) := by decide +kernel
theorem dX10_readsCondition_158 : decode cX10_readsCondition 158 = .ok (.if_icmp .eq 22, 3) := by decide +kernel
theorem dX10_readsCondition_161 : decode cX10_readsCondition 161 = .ok (.aload_n 0, 1) := by decide +kernel
theorem dX10_readsCondition_162 : decode cX10_readsCondition 162 = .ok (.invokevirtual 144, 3) := by decide +kernel
theorem dX10_readsCondition_165 : decode cX10_readsCondition 165 = .ok (.bipush 124, 2) := by decide +kernel
theorem dX10_readsCondition_167 : decode cX10_readsCondition 167 = .ok (.if_icmp .eq 13, 3) := by decide +kernel
theorem dX10_readsCondition_170 : decode cX10_readsCondition 170 = .ok (.aload_n 0, 1) := by decide +kernel
theorem dX10_readsCondition_171 : decode cX10_readsCondition 171 = .ok (.iconst 1, 1) := by decide +kernel
theorem dX10_readsCondition_172 : decode cX10_readsCondition 172 = .ok (.aload_n 0, 1) := by decide +kernel
theorem dX10_readsCondition_173 : decode cX10_readsCondition 173 = .ok (.getfield 138, 3) := by decide +kernel
theorem dX10_readsCondition_176 : decode cX10_readsCondition 176 = .ok (.invokevirtual 151, 3) := by decide +kernel
theorem dX10_readsCondition_179 : decode cX10_readsCondition 179 = .ok (.ireturn, 1) := by decide +kernel
theorem dX10_readsCondition_180 : decode cX10_readsCondition 180 = .ok (.aload_n 0, 1) := by decide +kernel
theorem dX10_readsCondition_181 : decode cX10_readsCondition 181 = .ok (.aload_n 0, 1) := by decide +kernel
theorem dX10_readsCondition_182 : decode cX10_readsCondition 182 = .ok (.invokevirtual 144, 3) := by decide +kernel
theorem dX10_readsCondition_185 : decode cX10_readsCondition 185 = .ok (.bipush 124, 2) := by decide +kernel
theorem dX10_readsCondition_187 : decode cX10_readsCondition 187 = .ok (.if_icmp .ne 7, 3) := by decide +kernel
theorem dX10_readsCondition_190 : decode cX10_readsCondition 190 = .ok (.iconst 1, 1) := by decide +kernel
theorem dX10_readsCondition_191 : decode cX10_readsCondition 191 = .ok (.goto 4, 3) := by decide +kernel
theorem dX10_readsCondition_194 : decode cX10_readsCondition 194 = .ok (.iconst 0, 1) := by decide +kernel
theorem dX10_readsCondition_195 : decode cX10_readsCondition 195 = .ok (.invokevirtual 209, 3) := by decide +kernel
theorem dX10_readsCondition_198 : decode cX10_readsCondition 198 = .ok (.aload_n 0, 1) := by decide +kernel
theorem dX10_readsCondition_199 : decode cX10_readsCondition 199 = .ok (.aload_n 0, 1) := by decide +kernel
theorem dX10_readsCondition_200 : decode cX10_readsCondition 200 = .ok (.invokevirtual 144, 3) := by decide +kernel
theorem dX10_readsCondition_203 : decode cX10_readsCondition 203 = .ok (.bipush 38, 2) := by decide +kernel
theorem dX10_readsCondition_205 : decode cX10_readsCondition 205 = .ok (.if_icmp .ne 8, 3) := by decide +kernel
theorem dX10_readsCondition_208 : decode cX10_readsCondition 208 = .ok (.bipush 11, 2) := by decide +kernel
theorem dX10_readsCondition_210 : decode cX10_readsCondition 210 = .ok (.goto 5, 3) := by decide +kernel
theorem dX10_readsCondition_213 : decode cX10_readsCondition 213 = .ok (.bipush 12, 2) := by decide +kernel
theorem dX10_readsCondition_215 : decode cX10_readsCondition 215 = .ok (.invokevirtual 212, 3) := by decide +kernel
theorem dX10_readsCondition_218 : decode cX10_readsCondition 218 = .ok (.goto (-178), 3) := by decide +kernel
theorem dX10_readsRule_0 : decode cX10_readsRule 0 = .ok (.aload_n 0, 1) := by decide +kernel
theorem dX10_readsRule_1 : decode cX10_readsRule 1 = .ok (.invokevirtual 144, 3) := by decide +kernel
theorem dX10_readsRule_4 : decode cX10_readsRule 4 = .ok (.istore_n 1, 1) := by decide +kernel
theorem dX10_readsRule_5 : decode cX10_readsRule 5 = .ok (.iload_n 1, 1) := by decide +kernel
theorem dX10_readsRule_6 : decode cX10_readsRule 6 = .ok (.bipush 119, 2) := by decide +kernel
theorem dX10_readsRule_8 : decode cX10_readsRule 8 = .ok (.if_icmp .eq 25, 3) := by decide +kernel
theorem dX10_readsRule_11 : decode cX10_readsRule 11 = .ok (.iload_n 1, 1) := by decide +kernel
theorem dX10_readsRule_12 : decode cX10_readsRule 12 = .ok (.bipush 114, 2) := by decide +kernel
theorem dX10_readsRule_14 : decode cX10_readsRule 14 = .ok (.if_icmp .eq 19, 3) := by decide +kernel
theorem dX10_readsRule_17 : decode cX10_readsRule 17 = .ok (.iload_n 1, 1) := by decide +kernel
theorem dX10_readsRule_18 : decode cX10_readsRule 18 = .ok (.bipush 115, 2) := by decide +kernel
theorem dX10_readsRule_20 : decode cX10_readsRule 20 = .ok (.if_icmp .eq 13, 3) := by decide +kernel
theorem dX10_readsRule_23 : decode cX10_readsRule 23 = .ok (.aload_n 0, 1) := by decide +kernel
theorem dX10_readsRule_24 : decode cX10_readsRule 24 = .ok (.iconst 1, 1) := by decide +kernel
theorem dX10_readsRule_25 : decode cX10_readsRule 25 = .ok (.aload_n 0, 1) := by decide +kernel
theorem dX10_readsRule_26 : decode cX10_readsRule 26 = .ok (.getfield 138, 3) := by decide +kernel
theorem dX10_readsRule_29 : decode cX10_readsRule 29 = .ok (.invokevirtual 151, 3) := by decide +kernel
theorem dX10_readsRule_32 : decode cX10_readsRule 32 = .ok (.ireturn, 1) := by decide +kernel
theorem dX10_readsRule_33 : decode cX10_readsRule 33 = .ok (.aload_n 0, 1) := by decide +kernel
theorem dX10_readsRule_34 : decode cX10_readsRule 34 = .ok (.getfield 215, 3) := by decide +kernel
theorem dX10_readsRule_37 : decode cX10_readsRule 37 = .ok (.bipush 16, 2) := by decide +kernel
theorem dX10_readsRule_39 : decode cX10_readsRule 39 = .ok (.if_icmp .ne 13, 3) := by decide +kernel
theorem dX10_readsRule_42 : decode cX10_readsRule 42 = .ok (.aload_n 0, 1) := by decide +kernel
theorem dX10_readsRule_43 : decode cX10_readsRule 43 = .ok (.iconst 4, 1) := by decide +kernel
theorem dX10_readsRule_44 : decode cX10_readsRule 44 = .ok (.aload_n 0, 1) := by decide +kernel
theorem dX10_readsRule_45 : decode cX10_readsRule 45 = .ok (.getfield 138, 3) := by decide +kernel
theorem dX10_readsRule_48 : decode cX10_readsRule 48 = .ok (.invokevirtual 151, 3) := by decide +kernel
theorem dX10_readsRule_51 : decode cX10_readsRule 51 = .ok (.ireturn, 1) := by decide +kernel
theorem dX10_readsRule_52 : decode cX10_readsRule 52 = .ok (.aload_n 0, 1) := by decide +kernel
theorem dX10_readsRule_53 : decode cX10_readsRule 53 = .ok (.getfield 38, 3) := by decide +kernel
theorem dX10_readsRule_56 : decode cX10_readsRule 56 = .ok (.aload_n 0, 1) := by decide +kernel
theorem dX10_readsRule_57 : decode cX10_readsRule 57 = .ok (.getfield 215, 3) := by decide +kernel
theorem dX10_readsRule_60 : decode cX10_readsRule 60 = .ok (.iload_n 1, 1) := by decide +kernel
theorem dX10_readsRule_61 : decode cX10_readsRule 61 = .ok (.iastore, 1) := by decide +kernel
theorem dX10_readsRule_62 : decode cX10_readsRule 62 = .ok (.aload_n 0, 1) := by decide +kernel
theorem dX10_readsRule_63 : decode cX10_readsRule 63 = .ok (.aload_n 0, 1) := by decide +kernel
theorem dX10_readsRule_64 : decode cX10_readsRule 64 = .ok (.getfield 138, 3) := by decide +kernel
theorem dX10_readsRule_67 : decode cX10_readsRule 67 = .ok (.iconst 1, 1) := by decide +kernel
theorem dX10_readsRule_68 : decode cX10_readsRule 68 = .ok (.iadd, 1) := by decide +kernel
theorem dX10_readsRule_69 : decode cX10_readsRule 69 = .ok (.putfield 138, 3) := by decide +kernel
theorem dX10_readsRule_72 : decode cX10_readsRule 72 = .ok (.aload_n 0, 1) := by decide +kernel
theorem dX10_readsRule_73 : decode cX10_readsRule 73 = .ok (.getfield 41, 3) := by decide +kernel
theorem dX10_readsRule_76 : decode cX10_readsRule 76 = .ok (.aload_n 0, 1) := by decide +kernel
theorem dX10_readsRule_77 : decode cX10_readsRule 77 = .ok (.getfield 215, 3) := by decide +kernel
theorem dX10_readsRule_80 : decode cX10_readsRule 80 = .ok (.aload_n 0, 1) := by decide +kernel
theorem dX10_readsRule_81 : decode cX10_readsRule 81 = .ok (.getfield 161, 3) := by decide +kernel
theorem dX10_readsRule_84 : decode cX10_readsRule 84 = .ok (.iastore, 1) := by decide +kernel
theorem dX10_readsRule_85 : decode cX10_readsRule 85 = .ok (.aload_n 0, 1) := by decide +kernel
theorem dX10_readsRule_86 : decode cX10_readsRule 86 = .ok (.iconst 0, 1) := by decide +kernel
theorem dX10_readsRule_87 : decode cX10_readsRule 87 = .ok (.putfield 164, 3) := by decide +kernel
theorem dX10_readsRule_90 : decode cX10_readsRule 90 = .ok (.aload_n 0, 1) := by decide +kernel
theorem dX10_readsRule_91 : decode cX10_readsRule 91 = .ok (.iconst 0, 1) := by decide +kernel
theorem dX10_readsRule_92 : decode cX10_readsRule 92 = .ok (.putfield 167, 3) := by decide +kernel
theorem dX10_readsRule_95 : decode cX10_readsRule 95 = .ok (.iload_n 1, 1) := by decide +kernel
theorem dX10_readsRule_96 : decode cX10_readsRule 96 = .ok (.bipush 115, 2) := by decide +kernel
theorem dX10_readsRule_98 : decode cX10_readsRule 98 = .ok (.if_icmp .eq 12, 3) := by decide +kernel
theorem dX10_readsRule_101 : decode cX10_readsRule 101 = .ok (.aload_n 0, 1) := by decide +kernel
theorem dX10_readsRule_102 : decode cX10_readsRule 102 = .ok (.invokevirtual 200, 3) := by decide +kernel
theorem dX10_readsRule_105 : decode cX10_readsRule 105 = .ok (.ifCond .ne 5, 3) := by decide +kernel
theorem dX10_readsRule_108 : decode cX10_readsRule 108 = .ok (.iconst 0, 1) := by decide +kernel
theorem dX10_readsRule_109 : decode cX10_readsRule 109 = .ok (.ireturn, 1) := by decide +kernel
theorem dX10_readsRule_110 : decode cX10_readsRule 110 = .ok (.aload_n 0, 1) := by decide +kernel
theorem dX10_readsRule_111 : decode cX10_readsRule 111 = .ok (.getfield 44, 3) := by decide +kernel
theorem dX10_readsRule_114 : decode cX10_readsRule 114 = .ok (.aload_n 0, 1) := by decide +kernel
theorem dX10_readsRule_115 : decode cX10_readsRule 115 = .ok (.getfield 215, 3) := by decide +kernel
theorem dX10_readsRule_118 : decode cX10_readsRule 118 = .ok (.aload_n 0, 1) := by decide +kernel
theorem dX10_readsRule_119 : decode cX10_readsRule 119 = .ok (.getfield 161, 3) := by decide +kernel
theorem dX10_readsRule_122 : decode cX10_readsRule 122 = .ok (.iastore, 1) := by decide +kernel
theorem dX10_readsRule_123 : decode cX10_readsRule 123 = .ok (.aload_n 0, 1) := by decide +kernel
theorem dX10_readsRule_124 : decode cX10_readsRule 124 = .ok (.invokevirtual 218, 3) := by decide +kernel
theorem dX10_readsRule_127 : decode cX10_readsRule 127 = .ok (.ifCond .ne 5, 3) := by decide +kernel
theorem dX10_readsRule_130 : decode cX10_readsRule 130 = .ok (.iconst 0, 1) := by decide +kernel
theorem dX10_readsRule_131 : decode cX10_readsRule 131 = .ok (.ireturn, 1) := by decide +kernel
theorem dX10_readsRule_132 : decode cX10_readsRule 132 = .ok (.aload_n 0, 1) := by decide +kernel
theorem dX10_readsRule_133 : decode cX10_readsRule 133 = .ok (.getfield 47, 3) := by decide +kernel
theorem dX10_readsRule_136 : decode cX10_readsRule 136 = .ok (.aload_n 0, 1) := by decide +kernel
theorem dX10_readsRule_137 : decode cX10_readsRule 137 = .ok (.getfield 215, 3) := by decide +kernel
theorem dX10_readsRule_140 : decode cX10_readsRule 140 = .ok (.aload_n 0, 1) := by decide +kernel
theorem dX10_readsRule_141 : decode cX10_readsRule 141 = .ok (.getfield 161, 3) := by decide +kernel
theorem dX10_readsRule_144 : decode cX10_readsRule 144 = .ok (.iastore, 1) := by decide +kernel
theorem dX10_readsRule_145 : decode cX10_readsRule 145 = .ok (.aload_n 0, 1) := by decide +kernel
theorem dX10_readsRule_146 : decode cX10_readsRule 146 = .ok (.aload_n 0, 1) := by decide +kernel
theorem dX10_readsRule_147 : decode cX10_readsRule 147 = .ok (.getfield 215, 3) := by decide +kernel
theorem dX10_readsRule_150 : decode cX10_readsRule 150 = .ok (.iconst 1, 1) := by decide +kernel
theorem dX10_readsRule_151 : decode cX10_readsRule 151 = .ok (.iadd, 1) := by decide +kernel
theorem dX10_readsRule_152 : decode cX10_readsRule 152 = .ok (.putfield 215, 3) := by decide +kernel
theorem dX10_readsRule_155 : decode cX10_readsRule 155 = .ok (.iconst 1, 1) := by decide +kernel
theorem dX10_readsRule_156 : decode cX10_readsRule 156 = .ok (.ireturn, 1) := by decide +kernel
theorem dX10_beginsText_0 : decode cX10_beginsText 0 = .ok (.aload_n 0, 1) := by decide +kernel
theorem dX10_beginsText_1 : decode cX10_beginsText 1 = .ok (.iconst 0, 1) := by decide +kernel
theorem dX10_beginsText_2 : decode cX10_beginsText 2 = .ok (.putfield 138, 3) := by decide +kernel
theorem dX10_beginsText_5 : decode cX10_beginsText 5 = .ok (.aload_n 0, 1) := by decide +kernel
theorem dX10_beginsText_6 : decode cX10_beginsText 6 = .ok (.iload_n 1, 1) := by decide +kernel
theorem dX10_beginsText_7 : decode cX10_beginsText 7 = .ok (.putfield 141, 3) := by decide +kernel
theorem dX10_beginsText_10 : decode cX10_beginsText 10 = .ok (.aload_n 0, 1) := by decide +kernel
theorem dX10_beginsText_11 : decode cX10_beginsText 11 = .ok (.iconst 0, 1) := by decide +kernel
theorem dX10_beginsText_12 : decode cX10_beginsText 12 = .ok (.putfield 161, 3) := by decide +kernel
theorem dX10_beginsText_15 : decode cX10_beginsText 15 = .ok (.aload_n 0, 1) := by decide +kernel
theorem dX10_beginsText_16 : decode cX10_beginsText 16 = .ok (.iconst 0, 1) := by decide +kernel
theorem dX10_beginsText_17 : decode cX10_beginsText 17 = .ok (.putfield 215, 3) := by decide +kernel
theorem dX10_beginsText_20 : decode cX10_beginsText 20 = .ok (.return_, 1) := by decide +kernel
theorem dX10_law_0 : decode cX10_law 0 = .ok (.iload_n 1, 1) := by decide +kernel
theorem dX10_law_1 : decode cX10_law 1 = .ok (.iconst 1, 1) := by decide +kernel
theorem dX10_law_2 : decode cX10_law 2 = .ok (.sipush 240, 3) := by decide +kernel
theorem dX10_law_5 : decode cX10_law 5 = .ok (.invokestatic 112, 3) := by decide +kernel
theorem dX10_law_8 : decode cX10_law 8 = .ok (.ifCond .eq 11, 3) := by decide +kernel
theorem dX10_law_11 : decode cX10_law 11 = .ok (.iload_n 1, 1) := by decide +kernel
theorem dX10_law_12 : decode cX10_law 12 = .ok (.aload_n 0, 1) := by decide +kernel
theorem dX10_law_13 : decode cX10_law 13 = .ok (.getfield 131, 3) := by decide +kernel
theorem dX10_law_16 : decode cX10_law 16 = .ok (.if_icmp .le 5, 3) := by decide +kernel
theorem dX10_law_19 : decode cX10_law 19 = .ok (.iconst (-1), 1) := by decide +kernel
theorem dX10_law_20 : decode cX10_law 20 = .ok (.ireturn, 1) := by decide +kernel
theorem dX10_law_21 : decode cX10_law 21 = .ok (.aload_n 0, 1) := by decide +kernel
theorem dX10_law_22 : decode cX10_law 22 = .ok (.iload_n 1, 1) := by decide +kernel
theorem dX10_law_23 : decode cX10_law 23 = .ok (.invokevirtual 221, 3) := by decide +kernel
theorem dX10_law_26 : decode cX10_law 26 = .ok (.aload_n 0, 1) := by decide +kernel
theorem dX10_law_27 : decode cX10_law 27 = .ok (.invokevirtual 224, 3) := by decide +kernel
theorem dX10_law_30 : decode cX10_law 30 = .ok (.istore_n 2, 1) := by decide +kernel
theorem dX10_law_31 : decode cX10_law 31 = .ok (.iload_n 2, 1) := by decide +kernel
theorem dX10_law_32 : decode cX10_law 32 = .ok (.ifCond .eq 39, 3) := by decide +kernel
theorem dX10_law_35 : decode cX10_law 35 = .ok (.aload_n 0, 1) := by decide +kernel
theorem dX10_law_36 : decode cX10_law 36 = .ok (.getfield 138, 3) := by decide +kernel
theorem dX10_law_39 : decode cX10_law 39 = .ok (.aload_n 0, 1) := by decide +kernel
theorem dX10_law_40 : decode cX10_law 40 = .ok (.getfield 141, 3) := by decide +kernel
theorem dX10_law_43 : decode cX10_law 43 = .ok (.if_icmp .ge 28, 3) := by decide +kernel
theorem dX10_law_46 : decode cX10_law 46 = .ok (.aload_n 0, 1) := by decide +kernel
theorem dX10_law_47 : decode cX10_law 47 = .ok (.bipush 59, 2) := by decide +kernel
theorem dX10_law_49 : decode cX10_law 49 = .ok (.invokevirtual 227, 3) := by decide +kernel
theorem dX10_law_52 : decode cX10_law 52 = .ok (.ifCond .eq 14, 3) := by decide +kernel
theorem dX10_law_55 : decode cX10_law 55 = .ok (.aload_n 0, 1) := by decide +kernel
theorem dX10_law_56 : decode cX10_law 56 = .ok (.invokevirtual 224, 3) := by decide +kernel
theorem dX10_law_59 : decode cX10_law 59 = .ok (.ifCond .eq 7, 3) := by decide +kernel
theorem dX10_law_62 : decode cX10_law 62 = .ok (.iconst 1, 1) := by decide +kernel
theorem dX10_law_63 : decode cX10_law 63 = .ok (.goto 4, 3) := by decide +kernel
theorem dX10_law_66 : decode cX10_law 66 = .ok (.iconst 0, 1) := by decide +kernel
theorem dX10_law_67 : decode cX10_law 67 = .ok (.istore_n 2, 1) := by decide +kernel
theorem dX10_law_68 : decode cX10_law 68 = .ok (.goto (-37), 3) := by decide +kernel
theorem dX10_law_71 : decode cX10_law 71 = .ok (.aload_n 0, 1) := by decide +kernel
theorem dX10_law_72 : decode cX10_law 72 = .ok (.iconst 0, 1) := by decide +kernel
theorem dX10_law_73 : decode cX10_law 73 = .ok (.putfield 131, 3) := by decide +kernel
theorem dX10_law_76 : decode cX10_law 76 = .ok (.iload_n 2, 1) := by decide +kernel
theorem dX10_law_77 : decode cX10_law 77 = .ok (.ifCond .ne 8, 3) := by decide +kernel
theorem dX10_law_80 : decode cX10_law 80 = .ok (.aload_n 0, 1) := by decide +kernel
theorem dX10_law_81 : decode cX10_law 81 = .ok (.getfield 148, 3) := by decide +kernel
theorem dX10_law_84 : decode cX10_law 84 = .ok (.ireturn, 1) := by decide +kernel
theorem dX10_law_85 : decode cX10_law 85 = .ok (.aload_n 0, 1) := by decide +kernel
theorem dX10_law_86 : decode cX10_law 86 = .ok (.aload_n 0, 1) := by decide +kernel
theorem dX10_law_87 : decode cX10_law 87 = .ok (.getfield 215, 3) := by decide +kernel
theorem dX10_law_90 : decode cX10_law 90 = .ok (.putfield 230, 3) := by decide +kernel
theorem dX10_law_93 : decode cX10_law 93 = .ok (.iconst 0, 1) := by decide +kernel
theorem dX10_law_94 : decode cX10_law 94 = .ok (.istore_n 3, 1) := by decide +kernel
theorem dX10_law_95 : decode cX10_law 95 = .ok (.iload_n 3, 1) := by decide +kernel
theorem dX10_law_96 : decode cX10_law 96 = .ok (.aload_n 0, 1) := by decide +kernel
theorem dX10_law_97 : decode cX10_law 97 = .ok (.getfield 161, 3) := by decide +kernel
theorem dX10_law_100 : decode cX10_law 100 = .ok (.if_icmp .ge 21, 3) := by decide +kernel
theorem dX10_law_103 : decode cX10_law 103 = .ok (.aload_n 0, 1) := by decide +kernel
theorem dX10_law_104 : decode cX10_law 104 = .ok (.getfield 50, 3) := by decide +kernel
theorem dX10_law_107 : decode cX10_law 107 = .ok (.iload_n 3, 1) := by decide +kernel
theorem dX10_law_108 : decode cX10_law 108 = .ok (.aload_n 0, 1) := by decide +kernel
theorem dX10_law_109 : decode cX10_law 109 = .ok (.getfield 32, 3) := by decide +kernel
theorem dX10_law_112 : decode cX10_law 112 = .ok (.iload_n 3, 1) := by decide +kernel
theorem dX10_law_113 : decode cX10_law 113 = .ok (.iaload, 1) := by decide +kernel
theorem dX10_law_114 : decode cX10_law 114 = .ok (.iastore, 1) := by decide +kernel
theorem dX10_law_115 : decode cX10_law 115 = .ok (.iinc 3 1, 3) := by decide +kernel
theorem dX10_law_118 : decode cX10_law 118 = .ok (.goto (-23), 3) := by decide +kernel
theorem dX10_law_121 : decode cX10_law 121 = .ok (.iconst 0, 1) := by decide +kernel
theorem dX10_law_122 : decode cX10_law 122 = .ok (.istore_n 3, 1) := by decide +kernel
theorem dX10_law_123 : decode cX10_law 123 = .ok (.iload_n 3, 1) := by decide +kernel
theorem dX10_law_124 : decode cX10_law 124 = .ok (.aload_n 0, 1) := by decide +kernel
theorem dX10_law_125 : decode cX10_law 125 = .ok (.getfield 215, 3) := by decide +kernel
theorem dX10_law_128 : decode cX10_law 128 = .ok (.if_icmp .ge 57, 3) := by decide +kernel
theorem dX10_law_131 : decode cX10_law 131 = .ok (.aload_n 0, 1) := by decide +kernel
theorem dX10_law_132 : decode cX10_law 132 = .ok (.getfield 53, 3) := by decide +kernel
theorem dX10_law_135 : decode cX10_law 135 = .ok (.iload_n 3, 1) := by decide +kernel
theorem dX10_law_136 : decode cX10_law 136 = .ok (.aload_n 0, 1) := by decide +kernel
theorem dX10_law_137 : decode cX10_law 137 = .ok (.getfield 38, 3) := by decide +kernel
theorem dX10_law_140 : decode cX10_law 140 = .ok (.iload_n 3, 1) := by decide +kernel
theorem dX10_law_141 : decode cX10_law 141 = .ok (.iaload, 1) := by decide +kernel
theorem dX10_law_142 : decode cX10_law 142 = .ok (.iastore, 1) := by decide +kernel
theorem dX10_law_143 : decode cX10_law 143 = .ok (.aload_n 0, 1) := by decide +kernel
theorem dX10_law_144 : decode cX10_law 144 = .ok (.getfield 56, 3) := by decide +kernel
theorem dX10_law_147 : decode cX10_law 147 = .ok (.iload_n 3, 1) := by decide +kernel
theorem dX10_law_148 : decode cX10_law 148 = .ok (.aload_n 0, 1) := by decide +kernel
theorem dX10_law_149 : decode cX10_law 149 = .ok (.getfield 41, 3) := by decide +kernel
theorem dX10_law_152 : decode cX10_law 152 = .ok (.iload_n 3, 1) := by decide +kernel
theorem dX10_law_153 : decode cX10_law 153 = .ok (.iaload, 1) := by decide +kernel
theorem dX10_law_154 : decode cX10_law 154 = .ok (.iastore, 1) := by decide +kernel
theorem dX10_law_155 : decode cX10_law 155 = .ok (.aload_n 0, 1) := by decide +kernel
theorem dX10_law_156 : decode cX10_law 156 = .ok (.getfield 59, 3) := by decide +kernel
theorem dX10_law_159 : decode cX10_law 159 = .ok (.iload_n 3, 1) := by decide +kernel
theorem dX10_law_160 : decode cX10_law 160 = .ok (.aload_n 0, 1) := by decide +kernel
theorem dX10_law_161 : decode cX10_law 161 = .ok (.getfield 44, 3) := by decide +kernel
theorem dX10_law_164 : decode cX10_law 164 = .ok (.iload_n 3, 1) := by decide +kernel
theorem dX10_law_165 : decode cX10_law 165 = .ok (.iaload, 1) := by decide +kernel
theorem dX10_law_166 : decode cX10_law 166 = .ok (.iastore, 1) := by decide +kernel
theorem dX10_law_167 : decode cX10_law 167 = .ok (.aload_n 0, 1) := by decide +kernel
theorem dX10_law_168 : decode cX10_law 168 = .ok (.getfield 62, 3) := by decide +kernel
theorem dX10_law_171 : decode cX10_law 171 = .ok (.iload_n 3, 1) := by decide +kernel
theorem dX10_law_172 : decode cX10_law 172 = .ok (.aload_n 0, 1) := by decide +kernel
theorem dX10_law_173 : decode cX10_law 173 = .ok (.getfield 47, 3) := by decide +kernel
theorem dX10_law_176 : decode cX10_law 176 = .ok (.iload_n 3, 1) := by decide +kernel
theorem dX10_law_177 : decode cX10_law 177 = .ok (.iaload, 1) := by decide +kernel
theorem dX10_law_178 : decode cX10_law 178 = .ok (.iastore, 1) := by decide +kernel
theorem dX10_law_179 : decode cX10_law 179 = .ok (.iinc 3 1, 3) := by decide +kernel
theorem dX10_law_182 : decode cX10_law 182 = .ok (.goto (-59), 3) := by decide +kernel
theorem dX10_law_185 : decode cX10_law 185 = .ok (.aload_n 0, 1) := by decide +kernel
theorem dX10_law_186 : decode cX10_law 186 = .ok (.getfield 215, 3) := by decide +kernel
theorem dX10_law_189 : decode cX10_law 189 = .ok (.ireturn, 1) := by decide +kernel
theorem dX10_reckon_0 : decode cX10_reckon 0 = .ok (.iload_n 0, 1) := by decide +kernel
theorem dX10_reckon_1 : decode cX10_reckon 1 = .ok (.tableswitch 85 2 8 #[43, 47, 51, 55, 59, 63, 74], 43) := by decide +kernel
theorem dX10_reckon_44 : decode cX10_reckon 44 = .ok (.iload_n 1, 1) := by decide +kernel
theorem dX10_reckon_45 : decode cX10_reckon 45 = .ok (.iload_n 2, 1) := by decide +kernel
theorem dX10_reckon_46 : decode cX10_reckon 46 = .ok (.iadd, 1) := by decide +kernel
theorem dX10_reckon_47 : decode cX10_reckon 47 = .ok (.ireturn, 1) := by decide +kernel
theorem dX10_reckon_48 : decode cX10_reckon 48 = .ok (.iload_n 1, 1) := by decide +kernel
theorem dX10_reckon_49 : decode cX10_reckon 49 = .ok (.iload_n 2, 1) := by decide +kernel
theorem dX10_reckon_50 : decode cX10_reckon 50 = .ok (.isub, 1) := by decide +kernel
theorem dX10_reckon_51 : decode cX10_reckon 51 = .ok (.ireturn, 1) := by decide +kernel
theorem dX10_reckon_52 : decode cX10_reckon 52 = .ok (.iload_n 1, 1) := by decide +kernel
theorem dX10_reckon_53 : decode cX10_reckon 53 = .ok (.iload_n 2, 1) := by decide +kernel
theorem dX10_reckon_54 : decode cX10_reckon 54 = .ok (.imul, 1) := by decide +kernel
theorem dX10_reckon_55 : decode cX10_reckon 55 = .ok (.ireturn, 1) := by decide +kernel
theorem dX10_reckon_56 : decode cX10_reckon 56 = .ok (.iload_n 1, 1) := by decide +kernel
theorem dX10_reckon_57 : decode cX10_reckon 57 = .ok (.iload_n 2, 1) := by decide +kernel
theorem dX10_reckon_58 : decode cX10_reckon 58 = .ok (.idiv, 1) := by decide +kernel
theorem dX10_reckon_59 : decode cX10_reckon 59 = .ok (.ireturn, 1) := by decide +kernel
theorem dX10_reckon_60 : decode cX10_reckon 60 = .ok (.iload_n 1, 1) := by decide +kernel
theorem dX10_reckon_61 : decode cX10_reckon 61 = .ok (.iload_n 2, 1) := by decide +kernel
theorem dX10_reckon_62 : decode cX10_reckon 62 = .ok (.irem, 1) := by decide +kernel
theorem dX10_reckon_63 : decode cX10_reckon 63 = .ok (.ireturn, 1) := by decide +kernel
theorem dX10_reckon_64 : decode cX10_reckon 64 = .ok (.iload_n 1, 1) := by decide +kernel
theorem dX10_reckon_65 : decode cX10_reckon 65 = .ok (.iload_n 2, 1) := by decide +kernel
theorem dX10_reckon_66 : decode cX10_reckon 66 = .ok (.if_icmp .ge 7, 3) := by decide +kernel
theorem dX10_reckon_69 : decode cX10_reckon 69 = .ok (.iconst 1, 1) := by decide +kernel
theorem dX10_reckon_70 : decode cX10_reckon 70 = .ok (.goto 4, 3) := by decide +kernel
theorem dX10_reckon_73 : decode cX10_reckon 73 = .ok (.iconst 0, 1) := by decide +kernel
theorem dX10_reckon_74 : decode cX10_reckon 74 = .ok (.ireturn, 1) := by decide +kernel
theorem dX10_reckon_75 : decode cX10_reckon 75 = .ok (.iload_n 1, 1) := by decide +kernel
theorem dX10_reckon_76 : decode cX10_reckon 76 = .ok (.iload_n 2, 1) := by decide +kernel
theorem dX10_reckon_77 : decode cX10_reckon 77 = .ok (.if_icmp .le 7, 3) := by decide +kernel
theorem dX10_reckon_80 : decode cX10_reckon 80 = .ok (.iconst 1, 1) := by decide +kernel
theorem dX10_reckon_81 : decode cX10_reckon 81 = .ok (.goto 4, 3) := by decide +kernel
theorem dX10_reckon_84 : decode cX10_reckon 84 = .ok (.iconst 0, 1) := by decide +kernel
theorem dX10_reckon_85 : decode cX10_reckon 85 = .ok (.ireturn, 1) := by decide +kernel
theorem dX10_reckon_86 : decode cX10_reckon 86 = .ok (.iload_n 1, 1) := by decide +kernel
theorem dX10_reckon_87 : decode cX10_reckon 87 = .ok (.iload_n 2, 1) := by decide +kernel
theorem dX10_reckon_88 : decode cX10_reckon 88 = .ok (.if_icmp .ne 7, 3) := by decide +kernel
theorem dX10_reckon_91 : decode cX10_reckon 91 = .ok (.iconst 1, 1) := by decide +kernel
theorem dX10_reckon_92 : decode cX10_reckon 92 = .ok (.goto 4, 3) := by decide +kernel
theorem dX10_reckon_95 : decode cX10_reckon 95 = .ok (.iconst 0, 1) := by decide +kernel
theorem dX10_reckon_96 : decode cX10_reckon 96 = .ok (.ireturn, 1) := by decide +kernel
theorem dX10_comesTo_0 : decode cX10_comesTo 0 = .ok (.iconst 0, 1) := by decide +kernel
theorem dX10_comesTo_1 : decode cX10_comesTo 1 = .ok (.istore_n 3, 1) := by decide +kernel
theorem dX10_comesTo_2 : decode cX10_comesTo 2 = .ok (.sipush 260, 3) := by decide +kernel
theorem dX10_comesTo_5 : decode cX10_comesTo 5 = .ok (.iload_n 1, 1) := by decide +kernel
theorem dX10_comesTo_6 : decode cX10_comesTo 6 = .ok (.sipush 260, 3) := by decide +kernel
theorem dX10_comesTo_9 : decode cX10_comesTo 9 = .ok (.idiv, 1) := by decide +kernel
theorem dX10_comesTo_10 : decode cX10_comesTo 10 = .ok (.imul, 1) := by decide +kernel
theorem dX10_comesTo_11 : decode cX10_comesTo 11 = .ok (.istore 4, 2) := by decide +kernel
theorem dX10_comesTo_13 : decode cX10_comesTo 13 = .ok (.iload_n 1, 1) := by decide +kernel
theorem dX10_comesTo_14 : decode cX10_comesTo 14 = .ok (.istore 5, 2) := by decide +kernel
theorem dX10_comesTo_16 : decode cX10_comesTo 16 = .ok (.iload 5, 2) := by decide +kernel
theorem dX10_comesTo_18 : decode cX10_comesTo 18 = .ok (.iload_n 2, 1) := by decide +kernel
theorem dX10_comesTo_19 : decode cX10_comesTo 19 = .ok (.if_icmp .ge 214, 3) := by decide +kernel
theorem dX10_comesTo_22 : decode cX10_comesTo 22 = .ok (.aload_n 0, 1) := by decide +kernel
theorem dX10_comesTo_23 : decode cX10_comesTo 23 = .ok (.getfield 50, 3) := by decide +kernel
theorem dX10_comesTo_26 : decode cX10_comesTo 26 = .ok (.iload 5, 2) := by decide +kernel
theorem dX10_comesTo_28 : decode cX10_comesTo 28 = .ok (.iaload, 1) := by decide +kernel
theorem dX10_comesTo_29 : decode cX10_comesTo 29 = .ok (.ldc 86, 2) := by decide +kernel
theorem dX10_comesTo_31 : decode cX10_comesTo 31 = .ok (.idiv, 1) := by decide +kernel
theorem dX10_comesTo_32 : decode cX10_comesTo 32 = .ok (.istore 6, 2) := by decide +kernel
theorem dX10_comesTo_34 : decode cX10_comesTo 34 = .ok (.aload_n 0, 1) := by decide +kernel
theorem dX10_comesTo_35 : decode cX10_comesTo 35 = .ok (.getfield 50, 3) := by decide +kernel
theorem dX10_comesTo_38 : decode cX10_comesTo 38 = .ok (.iload 5, 2) := by decide +kernel
theorem dX10_comesTo_40 : decode cX10_comesTo 40 = .ok (.iaload, 1) := by decide +kernel
theorem dX10_comesTo_41 : decode cX10_comesTo 41 = .ok (.ldc 86, 2) := by decide +kernel
theorem dX10_comesTo_43 : decode cX10_comesTo 43 = .ok (.irem, 1) := by decide +kernel
theorem dX10_comesTo_44 : decode cX10_comesTo 44 = .ok (.istore 7, 2) := by decide +kernel
theorem dX10_comesTo_46 : decode cX10_comesTo 46 = .ok (.iload 5, 2) := by decide +kernel
theorem dX10_comesTo_48 : decode cX10_comesTo 48 = .ok (.iconst 1, 1) := by decide +kernel
theorem dX10_comesTo_49 : decode cX10_comesTo 49 = .ok (.iadd, 1) := by decide +kernel
theorem dX10_comesTo_50 : decode cX10_comesTo 50 = .ok (.istore 5, 2) := by decide +kernel
theorem dX10_comesTo_52 : decode cX10_comesTo 52 = .ok (.iload 6, 2) := by decide +kernel
theorem dX10_comesTo_54 : decode cX10_comesTo 54 = .ok (.ifCond .eq 9, 3) := by decide +kernel
theorem dX10_comesTo_57 : decode cX10_comesTo 57 = .ok (.iload 6, 2) := by decide +kernel
theorem dX10_comesTo_59 : decode cX10_comesTo 59 = .ok (.iconst 1, 1) := by decide +kernel
theorem dX10_comesTo_60 : decode cX10_comesTo 60 = .ok (.if_icmp .ne 33, 3) := by decide +kernel
theorem dX10_comesTo_63 : decode cX10_comesTo 63 = .ok (.aload_n 0, 1) := by decide +kernel
theorem dX10_comesTo_64 : decode cX10_comesTo 64 = .ok (.getfield 65, 3) := by decide +kernel
theorem dX10_comesTo_67 : decode cX10_comesTo 67 = .ok (.iload_n 3, 1) := by decide +kernel
theorem dX10_comesTo_68 : decode cX10_comesTo 68 = .ok (.iload 6, 2) := by decide +kernel
theorem dX10_comesTo_70 : decode cX10_comesTo 70 = .ok (.ifCond .ne 8, 3) := by decide +kernel
theorem dX10_comesTo_73 : decode cX10_comesTo 73 = .ok (.iload 7, 2) := by decide +kernel
theorem dX10_comesTo_75 : decode cX10_comesTo 75 = .ok (.goto 10, 3) := by decide +kernel
theorem dX10_comesTo_78 : decode cX10_comesTo 78 = .ok (.aload_n 0, 1) := by decide +kernel
theorem dX10_comesTo_79 : decode cX10_comesTo 79 = .ok (.getfield 68, 3) := by decide +kernel
theorem dX10_comesTo_82 : decode cX10_comesTo 82 = .ok (.iload 7, 2) := by decide +kernel
theorem dX10_comesTo_84 : decode cX10_comesTo 84 = .ok (.iaload, 1) := by decide +kernel
theorem dX10_comesTo_85 : decode cX10_comesTo 85 = .ok (.iastore, 1) := by decide +kernel
theorem dX10_comesTo_86 : decode cX10_comesTo 86 = .ok (.iload_n 3, 1) := by decide +kernel
theorem dX10_comesTo_87 : decode cX10_comesTo 87 = .ok (.iconst 1, 1) := by decide +kernel
theorem dX10_comesTo_88 : decode cX10_comesTo 88 = .ok (.iadd, 1) := by decide +kernel
theorem dX10_comesTo_89 : decode cX10_comesTo 89 = .ok (.istore_n 3, 1) := by decide +kernel
theorem dX10_comesTo_90 : decode cX10_comesTo 90 = .ok (.goto 140, 3) := by decide +kernel
theorem dX10_comesTo_93 : decode cX10_comesTo 93 = .ok (.iload 6, 2) := by decide +kernel
theorem dX10_comesTo_95 : decode cX10_comesTo 95 = .ok (.bipush 10, 2) := by decide +kernel
theorem dX10_comesTo_97 : decode cX10_comesTo 97 = .ok (.if_icmp .ne 24, 3) := by decide +kernel
theorem dX10_comesTo_100 : decode cX10_comesTo 100 = .ok (.aload_n 0, 1) := by decide +kernel
theorem dX10_comesTo_101 : decode cX10_comesTo 101 = .ok (.getfield 65, 3) := by decide +kernel
theorem dX10_comesTo_104 : decode cX10_comesTo 104 = .ok (.iload_n 3, 1) := by decide +kernel
theorem dX10_comesTo_105 : decode cX10_comesTo 105 = .ok (.iconst 1, 1) := by decide +kernel
theorem dX10_comesTo_106 : decode cX10_comesTo 106 = .ok (.isub, 1) := by decide +kernel
theorem dX10_comesTo_107 : decode cX10_comesTo 107 = .ok (.iconst 1, 1) := by decide +kernel
theorem dX10_comesTo_108 : decode cX10_comesTo 108 = .ok (.aload_n 0, 1) := by decide +kernel
theorem dX10_comesTo_109 : decode cX10_comesTo 109 = .ok (.getfield 65, 3) := by decide +kernel
theorem dX10_comesTo_112 : decode cX10_comesTo 112 = .ok (.iload_n 3, 1) := by decide +kernel
theorem dX10_comesTo_113 : decode cX10_comesTo 113 = .ok (.iconst 1, 1) := by decide +kernel
theorem dX10_comesTo_114 : decode cX10_comesTo 114 = .ok (.isub, 1) := by decide +kernel
theorem dX10_comesTo_115 : decode cX10_comesTo 115 = .ok (.iaload, 1) := by decide +kernel
theorem dX10_comesTo_116 : decode cX10_comesTo 116 = .ok (.isub, 1) := by decide +kernel
theorem dX10_comesTo_117 : decode cX10_comesTo 117 = .ok (.iastore, 1) := by decide +kernel
theorem dX10_comesTo_118 : decode cX10_comesTo 118 = .ok (.goto 112, 3) := by decide +kernel
theorem dX10_comesTo_121 : decode cX10_comesTo 121 = .ok (.iload 6, 2) := by decide +kernel
theorem dX10_comesTo_123 : decode cX10_comesTo 123 = .ok (.bipush 11, 2) := by decide +kernel
theorem dX10_comesTo_125 : decode cX10_comesTo 125 = .ok (.if_icmp .eq 10, 3) := by decide +kernel
theorem dX10_comesTo_128 : decode cX10_comesTo 128 = .ok (.iload 6, 2) := by decide +kernel
theorem dX10_comesTo_130 : decode cX10_comesTo 130 = .ok (.bipush 12, 2) := by decide +kernel
theorem dX10_comesTo_132 : decode cX10_comesTo 132 = .ok (.if_icmp .ne 43, 3) := by decide +kernel
theorem dX10_comesTo_135 : decode cX10_comesTo 135 = .ok (.aload_n 0, 1) := by decide +kernel
theorem dX10_comesTo_136 : decode cX10_comesTo 136 = .ok (.getfield 65, 3) := by decide +kernel
theorem dX10_comesTo_139 : decode cX10_comesTo 139 = .ok (.iload_n 3, 1) := by decide +kernel
theorem dX10_comesTo_140 : decode cX10_comesTo 140 = .ok (.iconst 1, 1) := by decide +kernel
theorem dX10_comesTo_141 : decode cX10_comesTo 141 = .ok (.isub, 1) := by decide +kernel
theorem dX10_comesTo_142 : decode cX10_comesTo 142 = .ok (.iaload, 1) := by decide +kernel
theorem dX10_comesTo_143 : decode cX10_comesTo 143 = .ok (.iload 6, 2) := by decide +kernel
theorem dX10_comesTo_145 : decode cX10_comesTo 145 = .ok (.bipush 12, 2) := by decide +kernel
theorem dX10_comesTo_147 : decode cX10_comesTo 147 = .ok (.if_icmp .ne 7, 3) := by decide +kernel
theorem dX10_comesTo_150 : decode cX10_comesTo 150 = .ok (.iconst 1, 1) := by decide +kernel
theorem dX10_comesTo_151 : decode cX10_comesTo 151 = .ok (.goto 4, 3) := by decide +kernel
theorem dX10_comesTo_154 : decode cX10_comesTo 154 = .ok (.iconst 0, 1) := by decide +kernel
theorem dX10_comesTo_155 : decode cX10_comesTo 155 = .ok (.if_icmp .ne 13, 3) := by decide +kernel
theorem dX10_comesTo_158 : decode cX10_comesTo 158 = .ok (.iload 4, 2) := by decide +kernel
theorem dX10_comesTo_160 : decode cX10_comesTo 160 = .ok (.iload 7, 2) := by decide +kernel
theorem dX10_comesTo_162 : decode cX10_comesTo 162 = .ok (.iadd, 1) := by decide +kernel
theorem dX10_comesTo_163 : decode cX10_comesTo 163 = .ok (.istore 5, 2) := by decide +kernel
theorem dX10_comesTo_165 : decode cX10_comesTo 165 = .ok (.goto 65, 3) := by decide +kernel
theorem dX10_comesTo_168 : decode cX10_comesTo 168 = .ok (.iload_n 3, 1) := by decide +kernel
theorem dX10_comesTo_169 : decode cX10_comesTo 169 = .ok (.iconst 1, 1) := by decide +kernel
theorem dX10_comesTo_170 : decode cX10_comesTo 170 = .ok (.isub, 1) := by decide +kernel
theorem dX10_comesTo_171 : decode cX10_comesTo 171 = .ok (.istore_n 3, 1) := by decide +kernel
theorem dX10_comesTo_172 : decode cX10_comesTo 172 = .ok (.goto 58, 3) := by decide +kernel
theorem dX10_comesTo_175 : decode cX10_comesTo 175 = .ok (.iload_n 3, 1) := by decide +kernel
theorem dX10_comesTo_176 : decode cX10_comesTo 176 = .ok (.iconst 1, 1) := by decide +kernel
theorem dX10_comesTo_177 : decode cX10_comesTo 177 = .ok (.isub, 1) := by decide +kernel
theorem dX10_comesTo_178 : decode cX10_comesTo 178 = .ok (.istore_n 3, 1) := by decide +kernel
theorem dX10_comesTo_179 : decode cX10_comesTo 179 = .ok (.iload 6, 2) := by decide +kernel
theorem dX10_comesTo_181 : decode cX10_comesTo 181 = .ok (.iconst 5, 1) := by decide +kernel
theorem dX10_comesTo_182 : decode cX10_comesTo 182 = .ok (.if_icmp .eq 10, 3) := by decide +kernel
theorem dX10_comesTo_185 : decode cX10_comesTo 185 = .ok (.iload 6, 2) := by decide +kernel
theorem dX10_comesTo_187 : decode cX10_comesTo 187 = .ok (.bipush 6, 2) := by decide +kernel
theorem dX10_comesTo_189 : decode cX10_comesTo 189 = .ok (.if_icmp .ne 14, 3) := by decide +kernel
theorem dX10_comesTo_192 : decode cX10_comesTo 192 = .ok (.aload_n 0, 1) := by decide +kernel
theorem dX10_comesTo_193 : decode cX10_comesTo 193 = .ok (.getfield 65, 3) := by decide +kernel
theorem dX10_comesTo_196 : decode cX10_comesTo 196 = .ok (.iload_n 3, 1) := by decide +kernel
theorem dX10_comesTo_197 : decode cX10_comesTo 197 = .ok (.iaload, 1) := by decide +kernel
theorem dX10_comesTo_198 : decode cX10_comesTo 198 = .ok (.ifCond .ne 5, 3) := by decide +kernel
theorem dX10_comesTo_201 : decode cX10_comesTo 201 = .ok (.iconst 0, 1) := by decide +kernel
theorem dX10_comesTo_202 : decode cX10_comesTo 202 = .ok (.ireturn, 1) := by decide +kernel
theorem dX10_comesTo_203 : decode cX10_comesTo 203 = .ok (.aload_n 0, 1) := by decide +kernel
theorem dX10_comesTo_204 : decode cX10_comesTo 204 = .ok (.getfield 65, 3) := by decide +kernel
theorem dX10_comesTo_207 : decode cX10_comesTo 207 = .ok (.iload_n 3, 1) := by decide +kernel
theorem dX10_comesTo_208 : decode cX10_comesTo 208 = .ok (.iconst 1, 1) := by decide +kernel
theorem dX10_comesTo_209 : decode cX10_comesTo 209 = .ok (.isub, 1) := by decide +kernel
theorem dX10_comesTo_210 : decode cX10_comesTo 210 = .ok (.iload 6, 2) := by decide +kernel
theorem dX10_comesTo_212 : decode cX10_comesTo 212 = .ok (.aload_n 0, 1) := by decide +kernel
theorem dX10_comesTo_213 : decode cX10_comesTo 213 = .ok (.getfield 65, 3) := by decide +kernel
theorem dX10_comesTo_216 : decode cX10_comesTo 216 = .ok (.iload_n 3, 1) := by decide +kernel
theorem dX10_comesTo_217 : decode cX10_comesTo 217 = .ok (.iconst 1, 1) := by decide +kernel
theorem dX10_comesTo_218 : decode cX10_comesTo 218 = .ok (.isub, 1) := by decide +kernel
theorem dX10_comesTo_219 : decode cX10_comesTo 219 = .ok (.iaload, 1) := by decide +kernel
theorem dX10_comesTo_220 : decode cX10_comesTo 220 = .ok (.aload_n 0, 1) := by decide +kernel
theorem dX10_comesTo_221 : decode cX10_comesTo 221 = .ok (.getfield 65, 3) := by decide +kernel
theorem dX10_comesTo_224 : decode cX10_comesTo 224 = .ok (.iload_n 3, 1) := by decide +kernel
theorem dX10_comesTo_225 : decode cX10_comesTo 225 = .ok (.iaload, 1) := by decide +kernel
theorem dX10_comesTo_226 : decode cX10_comesTo 226 = .ok (.invokestatic 233, 3) := by decide +kernel
theorem dX10_comesTo_229 : decode cX10_comesTo 229 = .ok (.iastore, 1) := by decide +kernel
theorem dX10_comesTo_230 : decode cX10_comesTo 230 = .ok (.goto (-214), 3) := by decide +kernel
theorem dX10_comesTo_233 : decode cX10_comesTo 233 = .ok (.aload_n 0, 1) := by decide +kernel
theorem dX10_comesTo_234 : decode cX10_comesTo 234 = .ok (.getfield 65, 3) := by decide +kernel
theorem dX10_comesTo_237 : decode cX10_comesTo 237 = .ok (.iconst 0, 1) := by decide +kernel
theorem dX10_comesTo_238 : decode cX10_comesTo 238 = .ok (.iaload, 1) := by decide +kernel
theorem dX10_comesTo_239 : decode cX10_comesTo 239 = .ok (.ireturn, 1) := by decide +kernel
theorem dX10_byLaw_0 : decode cX10_byLaw 0 = .ok (.iconst 0, 1) := by decide +kernel
theorem dX10_byLaw_1 : decode cX10_byLaw 1 = .ok (.istore_n 3, 1) := by decide +kernel
theorem dX10_byLaw_2 : decode cX10_byLaw 2 = .ok (.iload_n 3, 1) := by decide +kernel
theorem dX10_byLaw_3 : decode cX10_byLaw 3 = .ok (.aload_n 0, 1) := by decide +kernel
theorem dX10_byLaw_4 : decode cX10_byLaw 4 = .ok (.getfield 230, 3) := by decide +kernel
theorem dX10_byLaw_7 : decode cX10_byLaw 7 = .ok (.if_icmp .ge 82, 3) := by decide +kernel
theorem dX10_byLaw_10 : decode cX10_byLaw 10 = .ok (.aload_n 0, 1) := by decide +kernel
theorem dX10_byLaw_11 : decode cX10_byLaw 11 = .ok (.getfield 53, 3) := by decide +kernel
theorem dX10_byLaw_14 : decode cX10_byLaw 14 = .ok (.iload_n 3, 1) := by decide +kernel
theorem dX10_byLaw_15 : decode cX10_byLaw 15 = .ok (.iaload, 1) := by decide +kernel
theorem dX10_byLaw_16 : decode cX10_byLaw 16 = .ok (.iload_n 1, 1) := by decide +kernel
theorem dX10_byLaw_17 : decode cX10_byLaw 17 = .ok (.if_icmp .ne 66, 3) := by decide +kernel
theorem dX10_byLaw_20 : decode cX10_byLaw 20 = .ok (.aload_n 0, 1) := by decide +kernel
theorem dX10_byLaw_21 : decode cX10_byLaw 21 = .ok (.aload_n 0, 1) := by decide +kernel
theorem dX10_byLaw_22 : decode cX10_byLaw 22 = .ok (.getfield 59, 3) := by decide +kernel
theorem dX10_byLaw_25 : decode cX10_byLaw 25 = .ok (.iload_n 3, 1) := by decide +kernel
theorem dX10_byLaw_26 : decode cX10_byLaw 26 = .ok (.iaload, 1) := by decide +kernel
theorem dX10_byLaw_27 : decode cX10_byLaw 27 = .ok (.aload_n 0, 1) := by decide +kernel
theorem dX10_byLaw_28 : decode cX10_byLaw 28 = .ok (.getfield 62, 3) := by decide +kernel
theorem dX10_byLaw_31 : decode cX10_byLaw 31 = .ok (.iload_n 3, 1) := by decide +kernel
theorem dX10_byLaw_32 : decode cX10_byLaw 32 = .ok (.iaload, 1) := by decide +kernel
theorem dX10_byLaw_33 : decode cX10_byLaw 33 = .ok (.invokevirtual 237, 3) := by decide +kernel
theorem dX10_byLaw_36 : decode cX10_byLaw 36 = .ok (.iconst 1, 1) := by decide +kernel
theorem dX10_byLaw_37 : decode cX10_byLaw 37 = .ok (.if_icmp .eq 6, 3) := by decide +kernel
theorem dX10_byLaw_40 : decode cX10_byLaw 40 = .ok (.goto 43, 3) := by decide +kernel
theorem dX10_byLaw_43 : decode cX10_byLaw 43 = .ok (.aload_n 0, 1) := by decide +kernel
theorem dX10_byLaw_44 : decode cX10_byLaw 44 = .ok (.aload_n 0, 1) := by decide +kernel
theorem dX10_byLaw_45 : decode cX10_byLaw 45 = .ok (.getfield 56, 3) := by decide +kernel
theorem dX10_byLaw_48 : decode cX10_byLaw 48 = .ok (.iload_n 3, 1) := by decide +kernel
theorem dX10_byLaw_49 : decode cX10_byLaw 49 = .ok (.iaload, 1) := by decide +kernel
theorem dX10_byLaw_50 : decode cX10_byLaw 50 = .ok (.aload_n 0, 1) := by decide +kernel
theorem dX10_byLaw_51 : decode cX10_byLaw 51 = .ok (.getfield 59, 3) := by decide +kernel
theorem dX10_byLaw_54 : decode cX10_byLaw 54 = .ok (.iload_n 3, 1) := by decide +kernel
theorem dX10_byLaw_55 : decode cX10_byLaw 55 = .ok (.iaload, 1) := by decide +kernel
theorem dX10_byLaw_56 : decode cX10_byLaw 56 = .ok (.invokevirtual 237, 3) := by decide +kernel
theorem dX10_byLaw_59 : decode cX10_byLaw 59 = .ok (.istore 4, 2) := by decide +kernel
theorem dX10_byLaw_61 : decode cX10_byLaw 61 = .ok (.iload 4, 2) := by decide +kernel
theorem dX10_byLaw_63 : decode cX10_byLaw 63 = .ok (.ifCond .ge 7, 3) := by decide +kernel
theorem dX10_byLaw_66 : decode cX10_byLaw 66 = .ok (.iconst 0, 1) := by decide +kernel
theorem dX10_byLaw_67 : decode cX10_byLaw 67 = .ok (.goto 15, 3) := by decide +kernel
theorem dX10_byLaw_70 : decode cX10_byLaw 70 = .ok (.iload 4, 2) := by decide +kernel
theorem dX10_byLaw_72 : decode cX10_byLaw 72 = .ok (.iload_n 2, 1) := by decide +kernel
theorem dX10_byLaw_73 : decode cX10_byLaw 73 = .ok (.if_icmp .le 7, 3) := by decide +kernel
theorem dX10_byLaw_76 : decode cX10_byLaw 76 = .ok (.iload_n 2, 1) := by decide +kernel
theorem dX10_byLaw_77 : decode cX10_byLaw 77 = .ok (.goto 5, 3) := by decide +kernel
theorem dX10_byLaw_80 : decode cX10_byLaw 80 = .ok (.iload 4, 2) := by decide +kernel
theorem dX10_byLaw_82 : decode cX10_byLaw 82 = .ok (.ireturn, 1) := by decide +kernel
theorem dX10_byLaw_83 : decode cX10_byLaw 83 = .ok (.iinc 3 1, 3) := by decide +kernel
theorem dX10_byLaw_86 : decode cX10_byLaw 86 = .ok (.goto (-84), 3) := by decide +kernel
theorem dX10_byLaw_89 : decode cX10_byLaw 89 = .ok (.iconst 0, 1) := by decide +kernel
theorem dX10_byLaw_90 : decode cX10_byLaw 90 = .ok (.ireturn, 1) := by decide +kernel
theorem dX10_holdsAny_0 : decode cX10_holdsAny 0 = .ok (.iconst 0, 1) := by decide +kernel
theorem dX10_holdsAny_1 : decode cX10_holdsAny 1 = .ok (.istore_n 2, 1) := by decide +kernel
theorem dX10_holdsAny_2 : decode cX10_holdsAny 2 = .ok (.iload_n 2, 1) := by decide +kernel
theorem dX10_holdsAny_3 : decode cX10_holdsAny 3 = .ok (.aload_n 0, 1) := by decide +kernel
theorem dX10_holdsAny_4 : decode cX10_holdsAny 4 = .ok (.getfield 230, 3) := by decide +kernel
theorem dX10_holdsAny_7 : decode cX10_holdsAny 7 = .ok (.if_icmp .ge 41, 3) := by decide +kernel
theorem dX10_holdsAny_10 : decode cX10_holdsAny 10 = .ok (.aload_n 0, 1) := by decide +kernel
theorem dX10_holdsAny_11 : decode cX10_holdsAny 11 = .ok (.getfield 53, 3) := by decide +kernel
theorem dX10_holdsAny_14 : decode cX10_holdsAny 14 = .ok (.iload_n 2, 1) := by decide +kernel
theorem dX10_holdsAny_15 : decode cX10_holdsAny 15 = .ok (.iaload, 1) := by decide +kernel
theorem dX10_holdsAny_16 : decode cX10_holdsAny 16 = .ok (.iload_n 1, 1) := by decide +kernel
theorem dX10_holdsAny_17 : decode cX10_holdsAny 17 = .ok (.if_icmp .ne 25, 3) := by decide +kernel
theorem dX10_holdsAny_20 : decode cX10_holdsAny 20 = .ok (.aload_n 0, 1) := by decide +kernel
theorem dX10_holdsAny_21 : decode cX10_holdsAny 21 = .ok (.aload_n 0, 1) := by decide +kernel
theorem dX10_holdsAny_22 : decode cX10_holdsAny 22 = .ok (.getfield 59, 3) := by decide +kernel
theorem dX10_holdsAny_25 : decode cX10_holdsAny 25 = .ok (.iload_n 2, 1) := by decide +kernel
theorem dX10_holdsAny_26 : decode cX10_holdsAny 26 = .ok (.iaload, 1) := by decide +kernel
theorem dX10_holdsAny_27 : decode cX10_holdsAny 27 = .ok (.aload_n 0, 1) := by decide +kernel
theorem dX10_holdsAny_28 : decode cX10_holdsAny 28 = .ok (.getfield 62, 3) := by decide +kernel
theorem dX10_holdsAny_31 : decode cX10_holdsAny 31 = .ok (.iload_n 2, 1) := by decide +kernel
theorem dX10_holdsAny_32 : decode cX10_holdsAny 32 = .ok (.iaload, 1) := by decide +kernel
theorem dX10_holdsAny_33 : decode cX10_holdsAny 33 = .ok (.invokevirtual 237, 3) := by decide +kernel
theorem dX10_holdsAny_36 : decode cX10_holdsAny 36 = .ok (.iconst 1, 1) := by decide +kernel
theorem dX10_holdsAny_37 : decode cX10_holdsAny 37 = .ok (.if_icmp .ne 5, 3) := by decide +kernel
theorem dX10_holdsAny_40 : decode cX10_holdsAny 40 = .ok (.iconst 1, 1) := by decide +kernel
theorem dX10_holdsAny_41 : decode cX10_holdsAny 41 = .ok (.ireturn, 1) := by decide +kernel
theorem dX10_holdsAny_42 : decode cX10_holdsAny 42 = .ok (.iinc 2 1, 3) := by decide +kernel
theorem dX10_holdsAny_45 : decode cX10_holdsAny 45 = .ok (.goto (-43), 3) := by decide +kernel
theorem dX10_holdsAny_48 : decode cX10_holdsAny 48 = .ok (.iconst 0, 1) := by decide +kernel
theorem dX10_holdsAny_49 : decode cX10_holdsAny 49 = .ok (.ireturn, 1) := by decide +kernel
theorem dX10_menNear_0 : decode cX10_menNear 0 = .ok (.iconst 0, 1) := by decide +kernel
theorem dX10_menNear_1 : decode cX10_menNear 1 = .ok (.istore_n 2, 1) := by decide +kernel
theorem dX10_menNear_2 : decode cX10_menNear 2 = .ok (.iconst 0, 1) := by decide +kernel
theorem dX10_menNear_3 : decode cX10_menNear 3 = .ok (.istore_n 3, 1) := by decide +kernel
theorem dX10_menNear_4 : decode cX10_menNear 4 = .ok (.iload_n 3, 1) := by decide +kernel
theorem dX10_menNear_5 : decode cX10_menNear 5 = .ok (.bipush 16, 2) := by decide +kernel
theorem dX10_menNear_7 : decode cX10_menNear 7 = .ok (.if_icmp .ge 33, 3) := by decide +kernel
theorem dX10_menNear_10 : decode cX10_menNear 10 = .ok (.aload_n 0, 1) := by decide +kernel
theorem dX10_menNear_11 : decode cX10_menNear 11 = .ok (.getfield 19, 3) := by decide +kernel
theorem dX10_menNear_14 : decode cX10_menNear 14 = .ok (.iload_n 1, 1) := by decide +kernel
theorem dX10_menNear_15 : decode cX10_menNear 15 = .ok (.iaload, 1) := by decide +kernel
theorem dX10_menNear_16 : decode cX10_menNear 16 = .ok (.iload_n 3, 1) := by decide +kernel
theorem dX10_menNear_17 : decode cX10_menNear 17 = .ok (.invokestatic 120, 3) := by decide +kernel
theorem dX10_menNear_20 : decode cX10_menNear 20 = .ok (.ifCond .eq 14, 3) := by decide +kernel
theorem dX10_menNear_23 : decode cX10_menNear 23 = .ok (.iload_n 2, 1) := by decide +kernel
theorem dX10_menNear_24 : decode cX10_menNear 24 = .ok (.aload_n 0, 1) := by decide +kernel
theorem dX10_menNear_25 : decode cX10_menNear 25 = .ok (.iload_n 3, 1) := by decide +kernel
theorem dX10_menNear_26 : decode cX10_menNear 26 = .ok (.invokevirtual 241, 3) := by decide +kernel
theorem dX10_menNear_29 : decode cX10_menNear 29 = .ok (.invokestatic 244, 3) := by decide +kernel
theorem dX10_menNear_32 : decode cX10_menNear 32 = .ok (.iadd, 1) := by decide +kernel
theorem dX10_menNear_33 : decode cX10_menNear 33 = .ok (.istore_n 2, 1) := by decide +kernel
theorem dX10_menNear_34 : decode cX10_menNear 34 = .ok (.iinc 3 1, 3) := by decide +kernel
theorem dX10_menNear_37 : decode cX10_menNear 37 = .ok (.goto (-33), 3) := by decide +kernel
theorem dX10_menNear_40 : decode cX10_menNear 40 = .ok (.iload_n 2, 1) := by decide +kernel
theorem dX10_menNear_41 : decode cX10_menNear 41 = .ok (.ireturn, 1) := by decide +kernel
theorem dX10_feels_0 : decode cX10_feels 0 = .ok (.aload_n 0, 1) := by decide +kernel
theorem dX10_feels_1 : decode cX10_feels 1 = .ok (.getfield 68, 3) := by decide +kernel
theorem dX10_feels_4 : decode cX10_feels 4 = .ok (.iconst 0, 1) := by decide +kernel
theorem dX10_feels_5 : decode cX10_feels 5 = .ok (.iload_n 1, 1) := by decide +kernel
theorem dX10_feels_6 : decode cX10_feels 6 = .ok (.iastore, 1) := by decide +kernel
theorem dX10_feels_7 : decode cX10_feels 7 = .ok (.aload_n 0, 1) := by decide +kernel
theorem dX10_feels_8 : decode cX10_feels 8 = .ok (.getfield 68, 3) := by decide +kernel
theorem dX10_feels_11 : decode cX10_feels 11 = .ok (.iconst 1, 1) := by decide +kernel
theorem dX10_feels_12 : decode cX10_feels 12 = .ok (.aload_n 0, 1) := by decide +kernel
theorem dX10_feels_13 : decode cX10_feels 13 = .ok (.getfield 7, 3) := by decide +kernel
theorem dX10_feels_16 : decode cX10_feels 16 = .ok (.iconst 0, 1) := by decide +kernel
theorem dX10_feels_17 : decode cX10_feels 17 = .ok (.iload_n 1, 1) := by decide +kernel
theorem dX10_feels_18 : decode cX10_feels 18 = .ok (.iadd, 1) := by decide +kernel
theorem dX10_feels_19 : decode cX10_feels 19 = .ok (.iaload, 1) := by decide +kernel
theorem dX10_feels_20 : decode cX10_feels 20 = .ok (.iastore, 1) := by decide +kernel
theorem dX10_feels_21 : decode cX10_feels 21 = .ok (.aload_n 0, 1) := by decide +kernel
theorem dX10_feels_22 : decode cX10_feels 22 = .ok (.getfield 68, 3) := by decide +kernel
theorem dX10_feels_25 : decode cX10_feels 25 = .ok (.iconst 2, 1) := by decide +kernel
theorem dX10_feels_26 : decode cX10_feels 26 = .ok (.aload_n 0, 1) := by decide +kernel
theorem dX10_feels_27 : decode cX10_feels 27 = .ok (.getfield 7, 3) := by decide +kernel
theorem dX10_feels_30 : decode cX10_feels 30 = .ok (.bipush 16, 2) := by decide +kernel
theorem dX10_feels_32 : decode cX10_feels 32 = .ok (.iload_n 1, 1) := by decide +kernel
theorem dX10_feels_33 : decode cX10_feels 33 = .ok (.iadd, 1) := by decide +kernel
theorem dX10_feels_34 : decode cX10_feels 34 = .ok (.iaload, 1) := by decide +kernel
theorem dX10_feels_35 : decode cX10_feels 35 = .ok (.iastore, 1) := by decide +kernel
theorem dX10_feels_36 : decode cX10_feels 36 = .ok (.aload_n 0, 1) := by decide +kernel
theorem dX10_feels_37 : decode cX10_feels 37 = .ok (.getfield 68, 3) := by decide +kernel
theorem dX10_feels_40 : decode cX10_feels 40 = .ok (.iconst 3, 1) := by decide +kernel
theorem dX10_feels_41 : decode cX10_feels 41 = .ok (.aload_n 0, 1) := by decide +kernel
theorem dX10_feels_42 : decode cX10_feels 42 = .ok (.iload_n 1, 1) := by decide +kernel
theorem dX10_feels_43 : decode cX10_feels 43 = .ok (.invokevirtual 241, 3) := by decide +kernel
theorem dX10_feels_46 : decode cX10_feels 46 = .ok (.invokestatic 244, 3) := by decide +kernel
theorem dX10_feels_49 : decode cX10_feels 49 = .ok (.iastore, 1) := by decide +kernel
theorem dX10_feels_50 : decode cX10_feels 50 = .ok (.aload_n 0, 1) := by decide +kernel
theorem dX10_feels_51 : decode cX10_feels 51 = .ok (.getfield 68, 3) := by decide +kernel
theorem dX10_feels_54 : decode cX10_feels 54 = .ok (.iconst 4, 1) := by decide +kernel
theorem dX10_feels_55 : decode cX10_feels 55 = .ok (.aload_n 0, 1) := by decide +kernel
theorem dX10_feels_56 : decode cX10_feels 56 = .ok (.iload_n 1, 1) := by decide +kernel
theorem dX10_feels_57 : decode cX10_feels 57 = .ok (.invokevirtual 247, 3) := by decide +kernel
theorem dX10_feels_60 : decode cX10_feels 60 = .ok (.iastore, 1) := by decide +kernel
theorem dX10_feels_61 : decode cX10_feels 61 = .ok (.aload_n 0, 1) := by decide +kernel
theorem dX10_feels_62 : decode cX10_feels 62 = .ok (.getfield 68, 3) := by decide +kernel
theorem dX10_feels_65 : decode cX10_feels 65 = .ok (.iconst 5, 1) := by decide +kernel
theorem dX10_feels_66 : decode cX10_feels 66 = .ok (.aload_n 0, 1) := by decide +kernel
theorem dX10_feels_67 : decode cX10_feels 67 = .ok (.getfield 7, 3) := by decide +kernel
theorem dX10_feels_70 : decode cX10_feels 70 = .ok (.bipush 32, 2) := by decide +kernel
theorem dX10_feels_72 : decode cX10_feels 72 = .ok (.iload_n 1, 1) := by decide +kernel
theorem dX10_feels_73 : decode cX10_feels 73 = .ok (.iadd, 1) := by decide +kernel
theorem dX10_feels_74 : decode cX10_feels 74 = .ok (.iaload, 1) := by decide +kernel
theorem dX10_feels_75 : decode cX10_feels 75 = .ok (.iastore, 1) := by decide +kernel
theorem dX10_feels_76 : decode cX10_feels 76 = .ok (.aload_n 0, 1) := by decide +kernel
theorem dX10_feels_77 : decode cX10_feels 77 = .ok (.getfield 68, 3) := by decide +kernel
theorem dX10_feels_80 : decode cX10_feels 80 = .ok (.bipush 6, 2) := by decide +kernel
theorem dX10_feels_82 : decode cX10_feels 82 = .ok (.aload_n 0, 1) := by decide +kernel
theorem dX10_feels_83 : decode cX10_feels 83 = .ok (.getfield 7, 3) := by decide +kernel
theorem dX10_feels_86 : decode cX10_feels 86 = .ok (.bipush 74, 2) := by decide +kernel
theorem dX10_feels_88 : decode cX10_feels 88 = .ok (.iaload, 1) := by decide +kernel
theorem dX10_feels_89 : decode cX10_feels 89 = .ok (.bipush 24, 2) := by decide +kernel
theorem dX10_feels_91 : decode cX10_feels 91 = .ok (.irem, 1) := by decide +kernel
