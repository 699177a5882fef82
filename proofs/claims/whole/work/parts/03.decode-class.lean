theorem dX0_init_0 : decode cX0_init 0 = .ok (.aload_n 0, 1) := by decide +kernel
theorem dX0_init_1 : decode cX0_init 1 = .ok (.invokespecial 3, 3) := by decide +kernel
theorem dX0_init_4 : decode cX0_init 4 = .ok (.aload_n 0, 1) := by decide +kernel
theorem dX0_init_5 : decode cX0_init 5 = .ok (.bipush 6, 2) := by decide +kernel
theorem dX0_init_7 : decode cX0_init 7 = .ok (.bipush 60, 2) := by decide +kernel
theorem dX0_init_9 : decode cX0_init 9 = .ok (.multianewarray 9 2, 4) := by decide +kernel
theorem dX0_init_13 : decode cX0_init 13 = .ok (.putfield 11, 3) := by decide +kernel
theorem dX0_init_16 : decode cX0_init 16 = .ok (.aload_n 0, 1) := by decide +kernel
theorem dX0_init_17 : decode cX0_init 17 = .ok (.bipush 6, 2) := by decide +kernel
theorem dX0_init_19 : decode cX0_init 19 = .ok (.bipush 60, 2) := by decide +kernel
theorem dX0_init_21 : decode cX0_init 21 = .ok (.multianewarray 9 2, 4) := by decide +kernel
theorem dX0_init_25 : decode cX0_init 25 = .ok (.putfield 16, 3) := by decide +kernel
theorem dX0_init_28 : decode cX0_init 28 = .ok (.aload_n 0, 1) := by decide +kernel
theorem dX0_init_29 : decode cX0_init 29 = .ok (.bipush 6, 2) := by decide +kernel
theorem dX0_init_31 : decode cX0_init 31 = .ok (.bipush 60, 2) := by decide +kernel
theorem dX0_init_33 : decode cX0_init 33 = .ok (.multianewarray 9 2, 4) := by decide +kernel
theorem dX0_init_37 : decode cX0_init 37 = .ok (.putfield 19, 3) := by decide +kernel
theorem dX0_init_40 : decode cX0_init 40 = .ok (.aload_n 0, 1) := by decide +kernel
theorem dX0_init_41 : decode cX0_init 41 = .ok (.bipush 6, 2) := by decide +kernel
theorem dX0_init_43 : decode cX0_init 43 = .ok (.newarray .int, 2) := by decide +kernel
theorem dX0_init_45 : decode cX0_init 45 = .ok (.putfield 22, 3) := by decide +kernel
theorem dX0_init_48 : decode cX0_init 48 = .ok (.return_, 1) := by decide +kernel
theorem dX0_measure_0 : decode cX0_measure 0 = .ok (.iconst 0, 1) := by decide +kernel
theorem dX0_measure_1 : decode cX0_measure 1 = .ok (.istore 5, 2) := by decide +kernel
theorem dX0_measure_3 : decode cX0_measure 3 = .ok (.iload 5, 2) := by decide +kernel
theorem dX0_measure_5 : decode cX0_measure 5 = .ok (.aload_n 1, 1) := by decide +kernel
theorem dX0_measure_6 : decode cX0_measure 6 = .ok (.getfield 26, 3) := by decide +kernel
theorem dX0_measure_9 : decode cX0_measure 9 = .ok (.if_icmp .ge 76, 3) := by decide +kernel
theorem dX0_measure_12 : decode cX0_measure 12 = .ok (.iconst 0, 1) := by decide +kernel
theorem dX0_measure_13 : decode cX0_measure 13 = .ok (.istore 6, 2) := by decide +kernel
theorem dX0_measure_15 : decode cX0_measure 15 = .ok (.iload 6, 2) := by decide +kernel
theorem dX0_measure_17 : decode cX0_measure 17 = .ok (.aload_n 2, 1) := by decide +kernel
theorem dX0_measure_18 : decode cX0_measure 18 = .ok (.getfield 32, 3) := by decide +kernel
theorem dX0_measure_21 : decode cX0_measure 21 = .ok (.if_icmp .ge 58, 3) := by decide +kernel
theorem dX0_measure_24 : decode cX0_measure 24 = .ok (.aload_n 3, 1) := by decide +kernel
theorem dX0_measure_25 : decode cX0_measure 25 = .ok (.aload_n 1, 1) := by decide +kernel
theorem dX0_measure_26 : decode cX0_measure 26 = .ok (.getfield 35, 3) := by decide +kernel
theorem dX0_measure_29 : decode cX0_measure 29 = .ok (.iload 5, 2) := by decide +kernel
theorem dX0_measure_31 : decode cX0_measure 31 = .ok (.aaload, 1) := by decide +kernel
theorem dX0_measure_32 : decode cX0_measure 32 = .ok (.aload_n 2, 1) := by decide +kernel
theorem dX0_measure_33 : decode cX0_measure 33 = .ok (.getfield 39, 3) := by decide +kernel
theorem dX0_measure_36 : decode cX0_measure 36 = .ok (.aload_n 2, 1) := by decide +kernel
theorem dX0_measure_37 : decode cX0_measure 37 = .ok (.getfield 40, 3) := by decide +kernel
theorem dX0_measure_40 : decode cX0_measure 40 = .ok (.iload 6, 2) := by decide +kernel
theorem dX0_measure_42 : decode cX0_measure 42 = .ok (.iaload, 1) := by decide +kernel
theorem dX0_measure_43 : decode cX0_measure 43 = .ok (.aaload, 1) := by decide +kernel
theorem dX0_measure_44 : decode cX0_measure 44 = .ok (.invokevirtual 43, 3) := by decide +kernel
theorem dX0_measure_47 : decode cX0_measure 47 = .ok (.istore 7, 2) := by decide +kernel
theorem dX0_measure_49 : decode cX0_measure 49 = .ok (.aload_n 0, 1) := by decide +kernel
theorem dX0_measure_50 : decode cX0_measure 50 = .ok (.getfield 11, 3) := by decide +kernel
theorem dX0_measure_53 : decode cX0_measure 53 = .ok (.iload 5, 2) := by decide +kernel
theorem dX0_measure_55 : decode cX0_measure 55 = .ok (.aaload, 1) := by decide +kernel
theorem dX0_measure_56 : decode cX0_measure 56 = .ok (.iload 6, 2) := by decide +kernel
theorem dX0_measure_58 : decode cX0_measure 58 = .ok (.iload 7, 2) := by decide +kernel
theorem dX0_measure_60 : decode cX0_measure 60 = .ok (.iload 4, 2) := by decide +kernel
theorem dX0_measure_62 : decode cX0_measure 62 = .ok (.if_icmp .gt 8, 3) := by decide +kernel
theorem dX0_measure_65 : decode cX0_measure 65 = .ok (.iload 7, 2) := by decide +kernel
theorem dX0_measure_67 : decode cX0_measure 67 = .ok (.goto 5, 3) := by decide +kernel
theorem dX0_measure_70 : decode cX0_measure 70 = .ok (.ldc 49, 2) := by decide +kernel
theorem dX0_measure_72 : decode cX0_measure 72 = .ok (.iastore, 1) := by decide +kernel
theorem dX0_measure_73 : decode cX0_measure 73 = .ok (.iinc 6 1, 3) := by decide +kernel
theorem dX0_measure_76 : decode cX0_measure 76 = .ok (.goto (-61), 3) := by decide +kernel
theorem dX0_measure_79 : decode cX0_measure 79 = .ok (.iinc 5 1, 3) := by decide +kernel
theorem dX0_measure_82 : decode cX0_measure 82 = .ok (.goto (-79), 3) := by decide +kernel
theorem dX0_measure_85 : decode cX0_measure 85 = .ok (.return_, 1) := by decide +kernel
theorem dX0_choose_0 : decode cX0_choose 0 = .ok (.iload_n 1, 1) := by decide +kernel
theorem dX0_choose_1 : decode cX0_choose 1 = .ok (.iconst 1, 1) := by decide +kernel
theorem dX0_choose_2 : decode cX0_choose 2 = .ok (.if_icmp .lt 11, 3) := by decide +kernel
theorem dX0_choose_5 : decode cX0_choose 5 = .ok (.aload_n 2, 1) := by decide +kernel
theorem dX0_choose_6 : decode cX0_choose 6 = .ok (.getfield 32, 3) := by decide +kernel
theorem dX0_choose_9 : decode cX0_choose 9 = .ok (.iconst 1, 1) := by decide +kernel
theorem dX0_choose_10 : decode cX0_choose 10 = .ok (.if_icmp .ge 6, 3) := by decide +kernel
theorem dX0_choose_13 : decode cX0_choose 13 = .ok (.ldc 49, 2) := by decide +kernel
theorem dX0_choose_15 : decode cX0_choose 15 = .ok (.ireturn, 1) := by decide +kernel
theorem dX0_choose_16 : decode cX0_choose 16 = .ok (.iload_n 1, 1) := by decide +kernel
theorem dX0_choose_17 : decode cX0_choose 17 = .ok (.iconst 1, 1) := by decide +kernel
theorem dX0_choose_18 : decode cX0_choose 18 = .ok (.isub, 1) := by decide +kernel
theorem dX0_choose_19 : decode cX0_choose 19 = .ok (.istore 4, 2) := by decide +kernel
theorem dX0_choose_21 : decode cX0_choose 21 = .ok (.iload 4, 2) := by decide +kernel
theorem dX0_choose_23 : decode cX0_choose 23 = .ok (.ifCond .lt 80, 3) := by decide +kernel
theorem dX0_choose_26 : decode cX0_choose 26 = .ok (.iconst 0, 1) := by decide +kernel
theorem dX0_choose_27 : decode cX0_choose 27 = .ok (.istore 5, 2) := by decide +kernel
theorem dX0_choose_29 : decode cX0_choose 29 = .ok (.iload 5, 2) := by decide +kernel
theorem dX0_choose_31 : decode cX0_choose 31 = .ok (.aload_n 2, 1) := by decide +kernel
theorem dX0_choose_32 : decode cX0_choose 32 = .ok (.getfield 32, 3) := by decide +kernel
theorem dX0_choose_35 : decode cX0_choose 35 = .ok (.if_icmp .ge 62, 3) := by decide +kernel
theorem dX0_choose_38 : decode cX0_choose 38 = .ok (.aload_n 0, 1) := by decide +kernel
theorem dX0_choose_39 : decode cX0_choose 39 = .ok (.getfield 16, 3) := by decide +kernel
theorem dX0_choose_42 : decode cX0_choose 42 = .ok (.iload 4, 2) := by decide +kernel
theorem dX0_choose_44 : decode cX0_choose 44 = .ok (.aaload, 1) := by decide +kernel
theorem dX0_choose_45 : decode cX0_choose 45 = .ok (.iload 5, 2) := by decide +kernel
theorem dX0_choose_47 : decode cX0_choose 47 = .ok (.aload_n 0, 1) := by decide +kernel
theorem dX0_choose_48 : decode cX0_choose 48 = .ok (.getfield 11, 3) := by decide +kernel
theorem dX0_choose_51 : decode cX0_choose 51 = .ok (.iload 4, 2) := by decide +kernel
theorem dX0_choose_53 : decode cX0_choose 53 = .ok (.aaload, 1) := by decide +kernel
theorem dX0_choose_54 : decode cX0_choose 54 = .ok (.iload 5, 2) := by decide +kernel
theorem dX0_choose_56 : decode cX0_choose 56 = .ok (.iaload, 1) := by decide +kernel
theorem dX0_choose_57 : decode cX0_choose 57 = .ok (.iastore, 1) := by decide +kernel
theorem dX0_choose_58 : decode cX0_choose 58 = .ok (.aload_n 0, 1) := by decide +kernel
theorem dX0_choose_59 : decode cX0_choose 59 = .ok (.getfield 16, 3) := by decide +kernel
theorem dX0_choose_62 : decode cX0_choose 62 = .ok (.iload 4, 2) := by decide +kernel
theorem dX0_choose_64 : decode cX0_choose 64 = .ok (.aaload, 1) := by decide +kernel
theorem dX0_choose_65 : decode cX0_choose 65 = .ok (.iload 5, 2) := by decide +kernel
theorem dX0_choose_67 : decode cX0_choose 67 = .ok (.iaload, 1) := by decide +kernel
theorem dX0_choose_68 : decode cX0_choose 68 = .ok (.ldc 49, 2) := by decide +kernel
theorem dX0_choose_70 : decode cX0_choose 70 = .ok (.if_icmp .ge 21, 3) := by decide +kernel
theorem dX0_choose_73 : decode cX0_choose 73 = .ok (.iload 4, 2) := by decide +kernel
theorem dX0_choose_75 : decode cX0_choose 75 = .ok (.iconst 1, 1) := by decide +kernel
theorem dX0_choose_76 : decode cX0_choose 76 = .ok (.iadd, 1) := by decide +kernel
theorem dX0_choose_77 : decode cX0_choose 77 = .ok (.iload_n 1, 1) := by decide +kernel
theorem dX0_choose_78 : decode cX0_choose 78 = .ok (.if_icmp .ge 13, 3) := by decide +kernel
theorem dX0_choose_81 : decode cX0_choose 81 = .ok (.aload_n 0, 1) := by decide +kernel
theorem dX0_choose_82 : decode cX0_choose 82 = .ok (.iload 4, 2) := by decide +kernel
theorem dX0_choose_84 : decode cX0_choose 84 = .ok (.iload 5, 2) := by decide +kernel
theorem dX0_choose_86 : decode cX0_choose 86 = .ok (.aload_n 2, 1) := by decide +kernel
theorem dX0_choose_87 : decode cX0_choose 87 = .ok (.iload_n 3, 1) := by decide +kernel
theorem dX0_choose_88 : decode cX0_choose 88 = .ok (.invokevirtual 50, 3) := by decide +kernel
theorem dX0_choose_91 : decode cX0_choose 91 = .ok (.iinc 5 1, 3) := by decide +kernel
theorem dX0_choose_94 : decode cX0_choose 94 = .ok (.goto (-65), 3) := by decide +kernel
theorem dX0_choose_97 : decode cX0_choose 97 = .ok (.iinc 4 (-1), 3) := by decide +kernel
theorem dX0_choose_100 : decode cX0_choose 100 = .ok (.goto (-79), 3) := by decide +kernel
theorem dX0_choose_103 : decode cX0_choose 103 = .ok (.aload_n 0, 1) := by decide +kernel
theorem dX0_choose_104 : decode cX0_choose 104 = .ok (.aload_n 2, 1) := by decide +kernel
theorem dX0_choose_105 : decode cX0_choose 105 = .ok (.getfield 32, 3) := by decide +kernel
theorem dX0_choose_108 : decode cX0_choose 108 = .ok (.invokevirtual 54, 3) := by decide +kernel
theorem dX0_choose_111 : decode cX0_choose 111 = .ok (.istore 4, 2) := by decide +kernel
theorem dX0_choose_113 : decode cX0_choose 113 = .ok (.aload_n 0, 1) := by decide +kernel
theorem dX0_choose_114 : decode cX0_choose 114 = .ok (.getfield 16, 3) := by decide +kernel
theorem dX0_choose_117 : decode cX0_choose 117 = .ok (.iconst 0, 1) := by decide +kernel
theorem dX0_choose_118 : decode cX0_choose 118 = .ok (.aaload, 1) := by decide +kernel
theorem dX0_choose_119 : decode cX0_choose 119 = .ok (.iload 4, 2) := by decide +kernel
theorem dX0_choose_121 : decode cX0_choose 121 = .ok (.iaload, 1) := by decide +kernel
theorem dX0_choose_122 : decode cX0_choose 122 = .ok (.ldc 49, 2) := by decide +kernel
theorem dX0_choose_124 : decode cX0_choose 124 = .ok (.if_icmp .ge 11, 3) := by decide +kernel
theorem dX0_choose_127 : decode cX0_choose 127 = .ok (.aload_n 0, 1) := by decide +kernel
theorem dX0_choose_128 : decode cX0_choose 128 = .ok (.iload 4, 2) := by decide +kernel
theorem dX0_choose_130 : decode cX0_choose 130 = .ok (.iload_n 1, 1) := by decide +kernel
theorem dX0_choose_131 : decode cX0_choose 131 = .ok (.aload_n 2, 1) := by decide +kernel
theorem dX0_choose_132 : decode cX0_choose 132 = .ok (.invokevirtual 58, 3) := by decide +kernel
theorem dX0_choose_135 : decode cX0_choose 135 = .ok (.aload_n 0, 1) := by decide +kernel
theorem dX0_choose_136 : decode cX0_choose 136 = .ok (.getfield 16, 3) := by decide +kernel
theorem dX0_choose_139 : decode cX0_choose 139 = .ok (.iconst 0, 1) := by decide +kernel
theorem dX0_choose_140 : decode cX0_choose 140 = .ok (.aaload, 1) := by decide +kernel
theorem dX0_choose_141 : decode cX0_choose 141 = .ok (.iload 4, 2) := by decide +kernel
theorem dX0_choose_143 : decode cX0_choose 143 = .ok (.iaload, 1) := by decide +kernel
theorem dX0_choose_144 : decode cX0_choose 144 = .ok (.ireturn, 1) := by decide +kernel
theorem dX0_goOn_0 : decode cX0_goOn 0 = .ok (.ldc 64, 2) := by decide +kernel
theorem dX0_goOn_2 : decode cX0_goOn 2 = .ok (.istore 5, 2) := by decide +kernel
theorem dX0_goOn_4 : decode cX0_goOn 4 = .ok (.iconst 0, 1) := by decide +kernel
theorem dX0_goOn_5 : decode cX0_goOn 5 = .ok (.istore 6, 2) := by decide +kernel
theorem dX0_goOn_7 : decode cX0_goOn 7 = .ok (.iload 6, 2) := by decide +kernel
theorem dX0_goOn_9 : decode cX0_goOn 9 = .ok (.aload_n 3, 1) := by decide +kernel
theorem dX0_goOn_10 : decode cX0_goOn 10 = .ok (.getfield 32, 3) := by decide +kernel
theorem dX0_goOn_13 : decode cX0_goOn 13 = .ok (.if_icmp .ge 74, 3) := by decide +kernel
theorem dX0_goOn_16 : decode cX0_goOn 16 = .ok (.aload_n 3, 1) := by decide +kernel
theorem dX0_goOn_17 : decode cX0_goOn 17 = .ok (.aload_n 3, 1) := by decide +kernel
theorem dX0_goOn_18 : decode cX0_goOn 18 = .ok (.getfield 40, 3) := by decide +kernel
theorem dX0_goOn_21 : decode cX0_goOn 21 = .ok (.iload_n 2, 1) := by decide +kernel
theorem dX0_goOn_22 : decode cX0_goOn 22 = .ok (.iaload, 1) := by decide +kernel
theorem dX0_goOn_23 : decode cX0_goOn 23 = .ok (.aload_n 3, 1) := by decide +kernel
theorem dX0_goOn_24 : decode cX0_goOn 24 = .ok (.getfield 40, 3) := by decide +kernel
theorem dX0_goOn_27 : decode cX0_goOn 27 = .ok (.iload 6, 2) := by decide +kernel
theorem dX0_goOn_29 : decode cX0_goOn 29 = .ok (.iaload, 1) := by decide +kernel
theorem dX0_goOn_30 : decode cX0_goOn 30 = .ok (.invokevirtual 65, 3) := by decide +kernel
theorem dX0_goOn_33 : decode cX0_goOn 33 = .ok (.istore 7, 2) := by decide +kernel
theorem dX0_goOn_35 : decode cX0_goOn 35 = .ok (.aload_n 0, 1) := by decide +kernel
theorem dX0_goOn_36 : decode cX0_goOn 36 = .ok (.getfield 16, 3) := by decide +kernel
theorem dX0_goOn_39 : decode cX0_goOn 39 = .ok (.iload_n 1, 1) := by decide +kernel
theorem dX0_goOn_40 : decode cX0_goOn 40 = .ok (.iconst 1, 1) := by decide +kernel
theorem dX0_goOn_41 : decode cX0_goOn 41 = .ok (.iadd, 1) := by decide +kernel
theorem dX0_goOn_42 : decode cX0_goOn 42 = .ok (.aaload, 1) := by decide +kernel
theorem dX0_goOn_43 : decode cX0_goOn 43 = .ok (.iload 6, 2) := by decide +kernel
theorem dX0_goOn_45 : decode cX0_goOn 45 = .ok (.iaload, 1) := by decide +kernel
theorem dX0_goOn_46 : decode cX0_goOn 46 = .ok (.iload 7, 2) := by decide +kernel
theorem dX0_goOn_48 : decode cX0_goOn 48 = .ok (.ifCond .eq 7, 3) := by decide +kernel
theorem dX0_goOn_51 : decode cX0_goOn 51 = .ok (.iconst 0, 1) := by decide +kernel
theorem dX0_goOn_52 : decode cX0_goOn 52 = .ok (.goto 5, 3) := by decide +kernel
theorem dX0_goOn_55 : decode cX0_goOn 55 = .ok (.iload 4, 2) := by decide +kernel
theorem dX0_goOn_57 : decode cX0_goOn 57 = .ok (.iadd, 1) := by decide +kernel
theorem dX0_goOn_58 : decode cX0_goOn 58 = .ok (.istore 8, 2) := by decide +kernel
theorem dX0_goOn_60 : decode cX0_goOn 60 = .ok (.iload 8, 2) := by decide +kernel
theorem dX0_goOn_62 : decode cX0_goOn 62 = .ok (.iload 5, 2) := by decide +kernel
theorem dX0_goOn_64 : decode cX0_goOn 64 = .ok (.if_icmp .ge 17, 3) := by decide +kernel
theorem dX0_goOn_67 : decode cX0_goOn 67 = .ok (.iload 8, 2) := by decide +kernel
theorem dX0_goOn_69 : decode cX0_goOn 69 = .ok (.istore 5, 2) := by decide +kernel
theorem dX0_goOn_71 : decode cX0_goOn 71 = .ok (.aload_n 0, 1) := by decide +kernel
theorem dX0_goOn_72 : decode cX0_goOn 72 = .ok (.getfield 19, 3) := by decide +kernel
theorem dX0_goOn_75 : decode cX0_goOn 75 = .ok (.iload_n 1, 1) := by decide +kernel
theorem dX0_goOn_76 : decode cX0_goOn 76 = .ok (.aaload, 1) := by decide +kernel
theorem dX0_goOn_77 : decode cX0_goOn 77 = .ok (.iload_n 2, 1) := by decide +kernel
theorem dX0_goOn_78 : decode cX0_goOn 78 = .ok (.iload 6, 2) := by decide +kernel
theorem dX0_goOn_80 : decode cX0_goOn 80 = .ok (.iastore, 1) := by decide +kernel
theorem dX0_goOn_81 : decode cX0_goOn 81 = .ok (.iinc 6 1, 3) := by decide +kernel
theorem dX0_goOn_84 : decode cX0_goOn 84 = .ok (.goto (-77), 3) := by decide +kernel
theorem dX0_goOn_87 : decode cX0_goOn 87 = .ok (.aload_n 0, 1) := by decide +kernel
theorem dX0_goOn_88 : decode cX0_goOn 88 = .ok (.getfield 16, 3) := by decide +kernel
theorem dX0_goOn_91 : decode cX0_goOn 91 = .ok (.iload_n 1, 1) := by decide +kernel
theorem dX0_goOn_92 : decode cX0_goOn 92 = .ok (.aaload, 1) := by decide +kernel
theorem dX0_goOn_93 : decode cX0_goOn 93 = .ok (.iload_n 2, 1) := by decide +kernel
theorem dX0_goOn_94 : decode cX0_goOn 94 = .ok (.dup2, 1) := by decide +kernel
theorem dX0_goOn_95 : decode cX0_goOn 95 = .ok (.iaload, 1) := by decide +kernel
theorem dX0_goOn_96 : decode cX0_goOn 96 = .ok (.iload 5, 2) := by decide +kernel
theorem dX0_goOn_98 : decode cX0_goOn 98 = .ok (.iadd, 1) := by decide +kernel
theorem dX0_goOn_99 : decode cX0_goOn 99 = .ok (.iastore, 1) := by decide +kernel
theorem dX0_goOn_100 : decode cX0_goOn 100 = .ok (.return_, 1) := by decide +kernel
theorem dX0_cheapestFirst_0 : decode cX0_cheapestFirst 0 = .ok (.iconst 0, 1) := by decide +kernel
theorem dX0_cheapestFirst_1 : decode cX0_cheapestFirst 1 = .ok (.istore_n 2, 1) := by decide +kernel
theorem dX0_cheapestFirst_2 : decode cX0_cheapestFirst 2 = .ok (.iconst 1, 1) := by decide +kernel
theorem dX0_cheapestFirst_3 : decode cX0_cheapestFirst 3 = .ok (.istore_n 3, 1) := by decide +kernel
theorem dX0_cheapestFirst_4 : decode cX0_cheapestFirst 4 = .ok (.iload_n 3, 1) := by decide +kernel
theorem dX0_cheapestFirst_5 : decode cX0_cheapestFirst 5 = .ok (.iload_n 1, 1) := by decide +kernel
theorem dX0_cheapestFirst_6 : decode cX0_cheapestFirst 6 = .ok (.if_icmp .ge 30, 3) := by decide +kernel
theorem dX0_cheapestFirst_9 : decode cX0_cheapestFirst 9 = .ok (.aload_n 0, 1) := by decide +kernel
theorem dX0_cheapestFirst_10 : decode cX0_cheapestFirst 10 = .ok (.getfield 16, 3) := by decide +kernel
theorem dX0_cheapestFirst_13 : decode cX0_cheapestFirst 13 = .ok (.iconst 0, 1) := by decide +kernel
theorem dX0_cheapestFirst_14 : decode cX0_cheapestFirst 14 = .ok (.aaload, 1) := by decide +kernel
theorem dX0_cheapestFirst_15 : decode cX0_cheapestFirst 15 = .ok (.iload_n 3, 1) := by decide +kernel
theorem dX0_cheapestFirst_16 : decode cX0_cheapestFirst 16 = .ok (.iaload, 1) := by decide +kernel
theorem dX0_cheapestFirst_17 : decode cX0_cheapestFirst 17 = .ok (.aload_n 0, 1) := by decide +kernel
theorem dX0_cheapestFirst_18 : decode cX0_cheapestFirst 18 = .ok (.getfield 16, 3) := by decide +kernel
theorem dX0_cheapestFirst_21 : decode cX0_cheapestFirst 21 = .ok (.iconst 0, 1) := by decide +kernel
theorem dX0_cheapestFirst_22 : decode cX0_cheapestFirst 22 = .ok (.aaload, 1) := by decide +kernel
theorem dX0_cheapestFirst_23 : decode cX0_cheapestFirst 23 = .ok (.iload_n 2, 1) := by decide +kernel
theorem dX0_cheapestFirst_24 : decode cX0_cheapestFirst 24 = .ok (.iaload, 1) := by decide +kernel
theorem dX0_cheapestFirst_25 : decode cX0_cheapestFirst 25 = .ok (.if_icmp .ge 5, 3) := by decide +kernel
theorem dX0_cheapestFirst_28 : decode cX0_cheapestFirst 28 = .ok (.iload_n 3, 1) := by decide +kernel
theorem dX0_cheapestFirst_29 : decode cX0_cheapestFirst 29 = .ok (.istore_n 2, 1) := by decide +kernel
theorem dX0_cheapestFirst_30 : decode cX0_cheapestFirst 30 = .ok (.iinc 3 1, 3) := by decide +kernel
theorem dX0_cheapestFirst_33 : decode cX0_cheapestFirst 33 = .ok (.goto (-29), 3) := by decide +kernel
theorem dX0_cheapestFirst_36 : decode cX0_cheapestFirst 36 = .ok (.iload_n 2, 1) := by decide +kernel
theorem dX0_cheapestFirst_37 : decode cX0_cheapestFirst 37 = .ok (.ireturn, 1) := by decide +kernel
theorem dX0_keepRow_0 : decode cX0_keepRow 0 = .ok (.iload_n 1, 1) := by decide +kernel
theorem dX0_keepRow_1 : decode cX0_keepRow 1 = .ok (.istore 4, 2) := by decide +kernel
theorem dX0_keepRow_3 : decode cX0_keepRow 3 = .ok (.aload_n 0, 1) := by decide +kernel
theorem dX0_keepRow_4 : decode cX0_keepRow 4 = .ok (.getfield 22, 3) := by decide +kernel
theorem dX0_keepRow_7 : decode cX0_keepRow 7 = .ok (.iconst 0, 1) := by decide +kernel
theorem dX0_keepRow_8 : decode cX0_keepRow 8 = .ok (.aload_n 3, 1) := by decide +kernel
theorem dX0_keepRow_9 : decode cX0_keepRow 9 = .ok (.getfield 40, 3) := by decide +kernel
theorem dX0_keepRow_12 : decode cX0_keepRow 12 = .ok (.iload 4, 2) := by decide +kernel
theorem dX0_keepRow_14 : decode cX0_keepRow 14 = .ok (.iaload, 1) := by decide +kernel
theorem dX0_keepRow_15 : decode cX0_keepRow 15 = .ok (.iastore, 1) := by decide +kernel
theorem dX0_keepRow_16 : decode cX0_keepRow 16 = .ok (.iconst 1, 1) := by decide +kernel
theorem dX0_keepRow_17 : decode cX0_keepRow 17 = .ok (.istore 5, 2) := by decide +kernel
theorem dX0_keepRow_19 : decode cX0_keepRow 19 = .ok (.iload 5, 2) := by decide +kernel
theorem dX0_keepRow_21 : decode cX0_keepRow 21 = .ok (.iload_n 2, 1) := by decide +kernel
theorem dX0_keepRow_22 : decode cX0_keepRow 22 = .ok (.if_icmp .ge 37, 3) := by decide +kernel
theorem dX0_keepRow_25 : decode cX0_keepRow 25 = .ok (.aload_n 0, 1) := by decide +kernel
theorem dX0_keepRow_26 : decode cX0_keepRow 26 = .ok (.getfield 19, 3) := by decide +kernel
theorem dX0_keepRow_29 : decode cX0_keepRow 29 = .ok (.iload 5, 2) := by decide +kernel
theorem dX0_keepRow_31 : decode cX0_keepRow 31 = .ok (.iconst 1, 1) := by decide +kernel
theorem dX0_keepRow_32 : decode cX0_keepRow 32 = .ok (.isub, 1) := by decide +kernel
theorem dX0_keepRow_33 : decode cX0_keepRow 33 = .ok (.aaload, 1) := by decide +kernel
theorem dX0_keepRow_34 : decode cX0_keepRow 34 = .ok (.iload 4, 2) := by decide +kernel
theorem dX0_keepRow_36 : decode cX0_keepRow 36 = .ok (.iaload, 1) := by decide +kernel
theorem dX0_keepRow_37 : decode cX0_keepRow 37 = .ok (.istore 4, 2) := by decide +kernel
theorem dX0_keepRow_39 : decode cX0_keepRow 39 = .ok (.aload_n 0, 1) := by decide +kernel
theorem dX0_keepRow_40 : decode cX0_keepRow 40 = .ok (.getfield 22, 3) := by decide +kernel
theorem dX0_keepRow_43 : decode cX0_keepRow 43 = .ok (.iload 5, 2) := by decide +kernel
theorem dX0_keepRow_45 : decode cX0_keepRow 45 = .ok (.aload_n 3, 1) := by decide +kernel
theorem dX0_keepRow_46 : decode cX0_keepRow 46 = .ok (.getfield 40, 3) := by decide +kernel
theorem dX0_keepRow_49 : decode cX0_keepRow 49 = .ok (.iload 4, 2) := by decide +kernel
theorem dX0_keepRow_51 : decode cX0_keepRow 51 = .ok (.iaload, 1) := by decide +kernel
theorem dX0_keepRow_52 : decode cX0_keepRow 52 = .ok (.iastore, 1) := by decide +kernel
theorem dX0_keepRow_53 : decode cX0_keepRow 53 = .ok (.iinc 5 1, 3) := by decide +kernel
theorem dX0_keepRow_56 : decode cX0_keepRow 56 = .ok (.goto (-37), 3) := by decide +kernel
theorem dX0_keepRow_59 : decode cX0_keepRow 59 = .ok (.return_, 1) := by decide +kernel
theorem dX1_init_0 : decode cX1_init 0 = .ok (.aload_n 0, 1) := by decide +kernel
theorem dX1_init_1 : decode cX1_init 1 = .ok (.invokespecial 3, 3) := by decide +kernel
theorem dX1_init_4 : decode cX1_init 4 = .ok (.aload_n 0, 1) := by decide +kernel
theorem dX1_init_5 : decode cX1_init 5 = .ok (.bipush 6, 2) := by decide +kernel
theorem dX1_init_7 : decode cX1_init 7 = .ok (.anewarray 9, 3) := by decide +kernel
theorem dX1_init_10 : decode cX1_init 10 = .ok (.putfield 11, 3) := by decide +kernel
theorem dX1_init_13 : decode cX1_init 13 = .ok (.aload_n 0, 1) := by decide +kernel
theorem dX1_init_14 : decode cX1_init 14 = .ok (.iconst 0, 1) := by decide +kernel
theorem dX1_init_15 : decode cX1_init 15 = .ok (.putfield 17, 3) := by decide +kernel
theorem dX1_init_18 : decode cX1_init 18 = .ok (.iconst 0, 1) := by decide +kernel
theorem dX1_init_19 : decode cX1_init 19 = .ok (.istore_n 1, 1) := by decide +kernel
theorem dX1_init_20 : decode cX1_init 20 = .ok (.iload_n 1, 1) := by decide +kernel
theorem dX1_init_21 : decode cX1_init 21 = .ok (.bipush 6, 2) := by decide +kernel
theorem dX1_init_23 : decode cX1_init 23 = .ok (.if_icmp .ge 22, 3) := by decide +kernel
theorem dX1_init_26 : decode cX1_init 26 = .ok (.aload_n 0, 1) := by decide +kernel
theorem dX1_init_27 : decode cX1_init 27 = .ok (.getfield 11, 3) := by decide +kernel
theorem dX1_init_30 : decode cX1_init 30 = .ok (.iload_n 1, 1) := by decide +kernel
theorem dX1_init_31 : decode cX1_init 31 = .ok (.new 9, 3) := by decide +kernel
theorem dX1_init_34 : decode cX1_init 34 = .ok (.dup, 1) := by decide +kernel
theorem dX1_init_35 : decode cX1_init 35 = .ok (.invokespecial 21, 3) := by decide +kernel
theorem dX1_init_38 : decode cX1_init 38 = .ok (.aastore, 1) := by decide +kernel
theorem dX1_init_39 : decode cX1_init 39 = .ok (.iinc 1 1, 3) := by decide +kernel
theorem dX1_init_42 : decode cX1_init 42 = .ok (.goto (-22), 3) := by decide +kernel
theorem dX1_init_45 : decode cX1_init 45 = .ok (.return_, 1) := by decide +kernel
theorem dX1_add_0 : decode cX1_add 0 = .ok (.aload_n 0, 1) := by decide +kernel
theorem dX1_add_1 : decode cX1_add 1 = .ok (.getfield 17, 3) := by decide +kernel
theorem dX1_add_4 : decode cX1_add 4 = .ok (.bipush 6, 2) := by decide +kernel
theorem dX1_add_6 : decode cX1_add 6 = .ok (.if_icmp .lt 5, 3) := by decide +kernel
theorem dX1_add_9 : decode cX1_add 9 = .ok (.iconst 0, 1) := by decide +kernel
theorem dX1_add_10 : decode cX1_add 10 = .ok (.ireturn, 1) := by decide +kernel
theorem dX1_add_11 : decode cX1_add 11 = .ok (.aload_n 0, 1) := by decide +kernel
theorem dX1_add_12 : decode cX1_add 12 = .ok (.getfield 11, 3) := by decide +kernel
theorem dX1_add_15 : decode cX1_add 15 = .ok (.aload_n 0, 1) := by decide +kernel
theorem dX1_add_16 : decode cX1_add 16 = .ok (.getfield 17, 3) := by decide +kernel
theorem dX1_add_19 : decode cX1_add 19 = .ok (.aaload, 1) := by decide +kernel
theorem dX1_add_20 : decode cX1_add 20 = .ok (.aload_n 1, 1) := by decide +kernel
theorem dX1_add_21 : decode cX1_add 21 = .ok (.invokevirtual 22, 3) := by decide +kernel
theorem dX1_add_24 : decode cX1_add 24 = .ok (.aload_n 0, 1) := by decide +kernel
theorem dX1_add_25 : decode cX1_add 25 = .ok (.dup, 1) := by decide +kernel
theorem dX1_add_26 : decode cX1_add 26 = .ok (.getfield 17, 3) := by decide +kernel
theorem dX1_add_29 : decode cX1_add 29 = .ok (.iconst 1, 1) := by decide +kernel
theorem dX1_add_30 : decode cX1_add 30 = .ok (.iadd, 1) := by decide +kernel
theorem dX1_add_31 : decode cX1_add 31 = .ok (.putfield 17, 3) := by decide +kernel
theorem dX1_add_34 : decode cX1_add 34 = .ok (.iconst 1, 1) := by decide +kernel
theorem dX1_add_35 : decode cX1_add 35 = .ok (.ireturn, 1) := by decide +kernel
theorem dX2_init_0 : decode cX2_init 0 = .ok (.aload_n 0, 1) := by decide +kernel
theorem dX2_init_1 : decode cX2_init 1 = .ok (.invokespecial 3, 3) := by decide +kernel
theorem dX2_init_4 : decode cX2_init 4 = .ok (.aload_n 0, 1) := by decide +kernel
theorem dX2_init_5 : decode cX2_init 5 = .ok (.new 9, 3) := by decide +kernel
theorem dX2_init_8 : decode cX2_init 8 = .ok (.dup, 1) := by decide +kernel
theorem dX2_init_9 : decode cX2_init 9 = .ok (.invokespecial 11, 3) := by decide +kernel
theorem dX2_init_12 : decode cX2_init 12 = .ok (.putfield 12, 3) := by decide +kernel
theorem dX2_init_15 : decode cX2_init 15 = .ok (.aload_n 0, 1) := by decide +kernel
theorem dX2_init_16 : decode cX2_init 16 = .ok (.new 9, 3) := by decide +kernel
theorem dX2_init_19 : decode cX2_init 19 = .ok (.dup, 1) := by decide +kernel
theorem dX2_init_20 : decode cX2_init 20 = .ok (.invokespecial 11, 3) := by decide +kernel
theorem dX2_init_23 : decode cX2_init 23 = .ok (.putfield 18, 3) := by decide +kernel
theorem dX2_init_26 : decode cX2_init 26 = .ok (.aload_n 0, 1) := by decide +kernel
theorem dX2_init_27 : decode cX2_init 27 = .ok (.ldc 21, 2) := by decide +kernel
theorem dX2_init_29 : decode cX2_init 29 = .ok (.putfield 22, 3) := by decide +kernel
theorem dX2_init_32 : decode cX2_init 32 = .ok (.aload_n 0, 1) := by decide +kernel
theorem dX2_init_33 : decode cX2_init 33 = .ok (.iconst 0, 1) := by decide +kernel
theorem dX2_init_34 : decode cX2_init 34 = .ok (.putfield 26, 3) := by decide +kernel
theorem dX2_init_37 : decode cX2_init 37 = .ok (.aload_n 0, 1) := by decide +kernel
theorem dX2_init_38 : decode cX2_init 38 = .ok (.iconst 0, 1) := by decide +kernel
theorem dX2_init_39 : decode cX2_init 39 = .ok (.putfield 29, 3) := by decide +kernel
theorem dX2_init_42 : decode cX2_init 42 = .ok (.aload_n 0, 1) := by decide +kernel
theorem dX2_init_43 : decode cX2_init 43 = .ok (.iconst 0, 1) := by decide +kernel
theorem dX2_init_44 : decode cX2_init 44 = .ok (.putfield 32, 3) := by decide +kernel
theorem dX2_init_47 : decode cX2_init 47 = .ok (.return_, 1) := by decide +kernel
theorem dX2_find_0 : decode cX2_find 0 = .ok (.aload_n 0, 1) := by decide +kernel
theorem dX2_find_1 : decode cX2_find 1 = .ok (.aload_n 1, 1) := by decide +kernel
theorem dX2_find_2 : decode cX2_find 2 = .ok (.aload_n 2, 1) := by decide +kernel
theorem dX2_find_3 : decode cX2_find 3 = .ok (.aload_n 3, 1) := by decide +kernel
theorem dX2_find_4 : decode cX2_find 4 = .ok (.invokevirtual 35, 3) := by decide +kernel
theorem dX2_find_7 : decode cX2_find 7 = .ok (.aload_n 0, 1) := by decide +kernel
theorem dX2_find_8 : decode cX2_find 8 = .ok (.ldc 21, 2) := by decide +kernel
theorem dX2_find_10 : decode cX2_find 10 = .ok (.putfield 22, 3) := by decide +kernel
theorem dX2_find_13 : decode cX2_find 13 = .ok (.iconst 1, 1) := by decide +kernel
theorem dX2_find_14 : decode cX2_find 14 = .ok (.istore 5, 2) := by decide +kernel
theorem dX2_find_16 : decode cX2_find 16 = .ok (.iload 5, 2) := by decide +kernel
theorem dX2_find_18 : decode cX2_find 18 = .ok (.aload_n 1, 1) := by decide +kernel
theorem dX2_find_19 : decode cX2_find 19 = .ok (.getfield 39, 3) := by decide +kernel
theorem dX2_find_22 : decode cX2_find 22 = .ok (.if_icmp .ge 93, 3) := by decide +kernel
theorem dX2_find_25 : decode cX2_find 25 = .ok (.aload_n 1, 1) := by decide +kernel
theorem dX2_find_26 : decode cX2_find 26 = .ok (.getfield 39, 3) := by decide +kernel
theorem dX2_find_29 : decode cX2_find 29 = .ok (.iload 5, 2) := by decide +kernel
theorem dX2_find_31 : decode cX2_find 31 = .ok (.isub, 1) := by decide +kernel
theorem dX2_find_32 : decode cX2_find 32 = .ok (.istore 6, 2) := by decide +kernel
theorem dX2_find_34 : decode cX2_find 34 = .ok (.aload_n 0, 1) := by decide +kernel
theorem dX2_find_35 : decode cX2_find 35 = .ok (.getfield 12, 3) := by decide +kernel
theorem dX2_find_38 : decode cX2_find 38 = .ok (.getfield 44, 3) := by decide +kernel
theorem dX2_find_41 : decode cX2_find 41 = .ok (.iload 5, 2) := by decide +kernel
theorem dX2_find_43 : decode cX2_find 43 = .ok (.iaload, 1) := by decide +kernel
theorem dX2_find_44 : decode cX2_find 44 = .ok (.aload_n 0, 1) := by decide +kernel
theorem dX2_find_45 : decode cX2_find 45 = .ok (.getfield 18, 3) := by decide +kernel
theorem dX2_find_48 : decode cX2_find 48 = .ok (.getfield 44, 3) := by decide +kernel
theorem dX2_find_51 : decode cX2_find 51 = .ok (.iload 6, 2) := by decide +kernel
theorem dX2_find_53 : decode cX2_find 53 = .ok (.iaload, 1) := by decide +kernel
theorem dX2_find_54 : decode cX2_find 54 = .ok (.iadd, 1) := by decide +kernel
theorem dX2_find_55 : decode cX2_find 55 = .ok (.iload 4, 2) := by decide +kernel
theorem dX2_find_57 : decode cX2_find 57 = .ok (.iadd, 1) := by decide +kernel
theorem dX2_find_58 : decode cX2_find 58 = .ok (.istore 7, 2) := by decide +kernel
theorem dX2_find_60 : decode cX2_find 60 = .ok (.iload 7, 2) := by decide +kernel
theorem dX2_find_62 : decode cX2_find 62 = .ok (.aload_n 0, 1) := by decide +kernel
theorem dX2_find_63 : decode cX2_find 63 = .ok (.getfield 22, 3) := by decide +kernel
theorem dX2_find_66 : decode cX2_find 66 = .ok (.if_icmp .ge 43, 3) := by decide +kernel
theorem dX2_find_69 : decode cX2_find 69 = .ok (.aload_n 0, 1) := by decide +kernel
theorem dX2_find_70 : decode cX2_find 70 = .ok (.iload 7, 2) := by decide +kernel
theorem dX2_find_72 : decode cX2_find 72 = .ok (.putfield 22, 3) := by decide +kernel
theorem dX2_find_75 : decode cX2_find 75 = .ok (.aload_n 0, 1) := by decide +kernel
theorem dX2_find_76 : decode cX2_find 76 = .ok (.iload 5, 2) := by decide +kernel
theorem dX2_find_78 : decode cX2_find 78 = .ok (.putfield 26, 3) := by decide +kernel
theorem dX2_find_81 : decode cX2_find 81 = .ok (.aload_n 0, 1) := by decide +kernel
theorem dX2_find_82 : decode cX2_find 82 = .ok (.aload_n 0, 1) := by decide +kernel
theorem dX2_find_83 : decode cX2_find 83 = .ok (.getfield 12, 3) := by decide +kernel
theorem dX2_find_86 : decode cX2_find 86 = .ok (.getfield 48, 3) := by decide +kernel
theorem dX2_find_89 : decode cX2_find 89 = .ok (.iload 5, 2) := by decide +kernel
theorem dX2_find_91 : decode cX2_find 91 = .ok (.iaload, 1) := by decide +kernel
theorem dX2_find_92 : decode cX2_find 92 = .ok (.putfield 29, 3) := by decide +kernel
theorem dX2_find_95 : decode cX2_find 95 = .ok (.aload_n 0, 1) := by decide +kernel
theorem dX2_find_96 : decode cX2_find 96 = .ok (.aload_n 0, 1) := by decide +kernel
theorem dX2_find_97 : decode cX2_find 97 = .ok (.getfield 18, 3) := by decide +kernel
theorem dX2_find_100 : decode cX2_find 100 = .ok (.getfield 48, 3) := by decide +kernel
theorem dX2_find_103 : decode cX2_find 103 = .ok (.iload 6, 2) := by decide +kernel
theorem dX2_find_105 : decode cX2_find 105 = .ok (.iaload, 1) := by decide +kernel
theorem dX2_find_106 : decode cX2_find 106 = .ok (.putfield 32, 3) := by decide +kernel
theorem dX2_find_109 : decode cX2_find 109 = .ok (.iinc 5 1, 3) := by decide +kernel
theorem dX2_find_112 : decode cX2_find 112 = .ok (.goto (-96), 3) := by decide +kernel
theorem dX2_find_115 : decode cX2_find 115 = .ok (.return_, 1) := by decide +kernel
theorem dX2_fillSides_0 : decode cX2_fillSides 0 = .ok (.aload_n 0, 1) := by decide +kernel
theorem dX2_fillSides_1 : decode cX2_fillSides 1 = .ok (.getfield 12, 3) := by decide +kernel
theorem dX2_fillSides_4 : decode cX2_fillSides 4 = .ok (.invokevirtual 51, 3) := by decide +kernel
theorem dX2_fillSides_7 : decode cX2_fillSides 7 = .ok (.aload_n 0, 1) := by decide +kernel
theorem dX2_fillSides_8 : decode cX2_fillSides 8 = .ok (.getfield 18, 3) := by decide +kernel
theorem dX2_fillSides_11 : decode cX2_fillSides 11 = .ok (.invokevirtual 51, 3) := by decide +kernel
theorem dX2_fillSides_14 : decode cX2_fillSides 14 = .ok (.iconst 0, 1) := by decide +kernel
theorem dX2_fillSides_15 : decode cX2_fillSides 15 = .ok (.istore 4, 2) := by decide +kernel
theorem dX2_fillSides_17 : decode cX2_fillSides 17 = .ok (.iload 4, 2) := by decide +kernel
theorem dX2_fillSides_19 : decode cX2_fillSides 19 = .ok (.aload_n 2, 1) := by decide +kernel
theorem dX2_fillSides_20 : decode cX2_fillSides 20 = .ok (.getfield 54, 3) := by decide +kernel
theorem dX2_fillSides_23 : decode cX2_fillSides 23 = .ok (.if_icmp .ge 75, 3) := by decide +kernel
theorem dX2_fillSides_26 : decode cX2_fillSides 26 = .ok (.aload_n 2, 1) := by decide +kernel
theorem dX2_fillSides_27 : decode cX2_fillSides 27 = .ok (.getfield 59, 3) := by decide +kernel
theorem dX2_fillSides_30 : decode cX2_fillSides 30 = .ok (.iload 4, 2) := by decide +kernel
theorem dX2_fillSides_32 : decode cX2_fillSides 32 = .ok (.iaload, 1) := by decide +kernel
theorem dX2_fillSides_33 : decode cX2_fillSides 33 = .ok (.istore 5, 2) := by decide +kernel
theorem dX2_fillSides_35 : decode cX2_fillSides 35 = .ok (.aload_n 3, 1) := by decide +kernel
theorem dX2_fillSides_36 : decode cX2_fillSides 36 = .ok (.aload_n 1, 1) := by decide +kernel
theorem dX2_fillSides_37 : decode cX2_fillSides 37 = .ok (.aload_n 2, 1) := by decide +kernel
theorem dX2_fillSides_38 : decode cX2_fillSides 38 = .ok (.getfield 62, 3) := by decide +kernel
theorem dX2_fillSides_41 : decode cX2_fillSides 41 = .ok (.iload 5, 2) := by decide +kernel
theorem dX2_fillSides_43 : decode cX2_fillSides 43 = .ok (.aaload, 1) := by decide +kernel
theorem dX2_fillSides_44 : decode cX2_fillSides 44 = .ok (.invokevirtual 66, 3) := by decide +kernel
theorem dX2_fillSides_47 : decode cX2_fillSides 47 = .ok (.pop, 1) := by decide +kernel
theorem dX2_fillSides_48 : decode cX2_fillSides 48 = .ok (.aload_n 0, 1) := by decide +kernel
theorem dX2_fillSides_49 : decode cX2_fillSides 49 = .ok (.getfield 12, 3) := by decide +kernel
theorem dX2_fillSides_52 : decode cX2_fillSides 52 = .ok (.iload 5, 2) := by decide +kernel
theorem dX2_fillSides_54 : decode cX2_fillSides 54 = .ok (.aload_n 3, 1) := by decide +kernel
theorem dX2_fillSides_55 : decode cX2_fillSides 55 = .ok (.aload_n 1, 1) := by decide +kernel
theorem dX2_fillSides_56 : decode cX2_fillSides 56 = .ok (.getfield 39, 3) := by decide +kernel
theorem dX2_fillSides_59 : decode cX2_fillSides 59 = .ok (.iconst 1, 1) := by decide +kernel
theorem dX2_fillSides_60 : decode cX2_fillSides 60 = .ok (.isub, 1) := by decide +kernel
theorem dX2_fillSides_61 : decode cX2_fillSides 61 = .ok (.invokevirtual 72, 3) := by decide +kernel
theorem dX2_fillSides_64 : decode cX2_fillSides 64 = .ok (.aload_n 3, 1) := by decide +kernel
theorem dX2_fillSides_65 : decode cX2_fillSides 65 = .ok (.aload_n 1, 1) := by decide +kernel
theorem dX2_fillSides_66 : decode cX2_fillSides 66 = .ok (.aload_n 2, 1) := by decide +kernel
theorem dX2_fillSides_67 : decode cX2_fillSides 67 = .ok (.getfield 62, 3) := by decide +kernel
theorem dX2_fillSides_70 : decode cX2_fillSides 70 = .ok (.iload 5, 2) := by decide +kernel
theorem dX2_fillSides_72 : decode cX2_fillSides 72 = .ok (.aaload, 1) := by decide +kernel
theorem dX2_fillSides_73 : decode cX2_fillSides 73 = .ok (.invokevirtual 76, 3) := by decide +kernel
theorem dX2_fillSides_76 : decode cX2_fillSides 76 = .ok (.aload_n 0, 1) := by decide +kernel
theorem dX2_fillSides_77 : decode cX2_fillSides 77 = .ok (.getfield 18, 3) := by decide +kernel
theorem dX2_fillSides_80 : decode cX2_fillSides 80 = .ok (.iload 5, 2) := by decide +kernel
theorem dX2_fillSides_82 : decode cX2_fillSides 82 = .ok (.aload_n 3, 1) := by decide +kernel
theorem dX2_fillSides_83 : decode cX2_fillSides 83 = .ok (.aload_n 1, 1) := by decide +kernel
theorem dX2_fillSides_84 : decode cX2_fillSides 84 = .ok (.getfield 39, 3) := by decide +kernel
theorem dX2_fillSides_87 : decode cX2_fillSides 87 = .ok (.iconst 1, 1) := by decide +kernel
theorem dX2_fillSides_88 : decode cX2_fillSides 88 = .ok (.isub, 1) := by decide +kernel
theorem dX2_fillSides_89 : decode cX2_fillSides 89 = .ok (.invokevirtual 72, 3) := by decide +kernel
theorem dX2_fillSides_92 : decode cX2_fillSides 92 = .ok (.iinc 4 1, 3) := by decide +kernel
theorem dX2_fillSides_95 : decode cX2_fillSides 95 = .ok (.goto (-78), 3) := by decide +kernel
theorem dX2_fillSides_98 : decode cX2_fillSides 98 = .ok (.return_, 1) := by decide +kernel
theorem dX3_init_0 : decode cX3_init 0 = .ok (.aload_n 0, 1) := by decide +kernel
theorem dX3_init_1 : decode cX3_init 1 = .ok (.invokespecial 3, 3) := by decide +kernel
theorem dX3_init_4 : decode cX3_init 4 = .ok (.aload_n 0, 1) := by decide +kernel
theorem dX3_init_5 : decode cX3_init 5 = .ok (.bipush 6, 2) := by decide +kernel
theorem dX3_init_7 : decode cX3_init 7 = .ok (.newarray .int, 2) := by decide +kernel
theorem dX3_init_9 : decode cX3_init 9 = .ok (.dup, 1) := by decide +kernel
theorem dX3_init_10 : decode cX3_init 10 = .ok (.iconst 0, 1) := by decide +kernel
theorem dX3_init_11 : decode cX3_init 11 = .ok (.iconst 2, 1) := by decide +kernel
theorem dX3_init_12 : decode cX3_init 12 = .ok (.iastore, 1) := by decide +kernel
theorem dX3_init_13 : decode cX3_init 13 = .ok (.dup, 1) := by decide +kernel
theorem dX3_init_14 : decode cX3_init 14 = .ok (.iconst 1, 1) := by decide +kernel
theorem dX3_init_15 : decode cX3_init 15 = .ok (.iconst 2, 1) := by decide +kernel
theorem dX3_init_16 : decode cX3_init 16 = .ok (.iastore, 1) := by decide +kernel
theorem dX3_init_17 : decode cX3_init 17 = .ok (.dup, 1) := by decide +kernel
theorem dX3_init_18 : decode cX3_init 18 = .ok (.iconst 2, 1) := by decide +kernel
theorem dX3_init_19 : decode cX3_init 19 = .ok (.iconst 3, 1) := by decide +kernel
theorem dX3_init_20 : decode cX3_init 20 = .ok (.iastore, 1) := by decide +kernel
theorem dX3_init_21 : decode cX3_init 21 = .ok (.dup, 1) := by decide +kernel
theorem dX3_init_22 : decode cX3_init 22 = .ok (.iconst 3, 1) := by decide +kernel
theorem dX3_init_23 : decode cX3_init 23 = .ok (.iconst 1, 1) := by decide +kernel
theorem dX3_init_24 : decode cX3_init 24 = .ok (.iastore, 1) := by decide +kernel
theorem dX3_init_25 : decode cX3_init 25 = .ok (.dup, 1) := by decide +kernel
theorem dX3_init_26 : decode cX3_init 26 = .ok (.iconst 4, 1) := by decide +kernel
theorem dX3_init_27 : decode cX3_init 27 = .ok (.iconst 5, 1) := by decide +kernel
theorem dX3_init_28 : decode cX3_init 28 = .ok (.iastore, 1) := by decide +kernel
theorem dX3_init_29 : decode cX3_init 29 = .ok (.dup, 1) := by decide +kernel
theorem dX3_init_30 : decode cX3_init 30 = .ok (.iconst 5, 1) := by decide +kernel
theorem dX3_init_31 : decode cX3_init 31 = .ok (.iconst 4, 1) := by decide +kernel
theorem dX3_init_32 : decode cX3_init 32 = .ok (.iastore, 1) := by decide +kernel
theorem dX3_init_33 : decode cX3_init 33 = .ok (.putfield 9, 3) := by decide +kernel
theorem dX3_init_36 : decode cX3_init 36 = .ok (.aload_n 0, 1) := by decide +kernel
theorem dX3_init_37 : decode cX3_init 37 = .ok (.bipush 26, 2) := by decide +kernel
theorem dX3_init_39 : decode cX3_init 39 = .ok (.bipush 26, 2) := by decide +kernel
theorem dX3_init_41 : decode cX3_init 41 = .ok (.multianewarray 15 2, 4) := by decide +kernel
theorem dX3_init_45 : decode cX3_init 45 = .ok (.putfield 17, 3) := by decide +kernel
theorem dX3_init_48 : decode cX3_init 48 = .ok (.iconst 0, 1) := by decide +kernel
theorem dX3_init_49 : decode cX3_init 49 = .ok (.istore_n 1, 1) := by decide +kernel
theorem dX3_init_50 : decode cX3_init 50 = .ok (.iload_n 1, 1) := by decide +kernel
theorem dX3_init_51 : decode cX3_init 51 = .ok (.bipush 26, 2) := by decide +kernel
theorem dX3_init_53 : decode cX3_init 53 = .ok (.if_icmp .ge 19, 3) := by decide +kernel
theorem dX3_init_56 : decode cX3_init 56 = .ok (.aload_n 0, 1) := by decide +kernel
theorem dX3_init_57 : decode cX3_init 57 = .ok (.getfield 17, 3) := by decide +kernel
theorem dX3_init_60 : decode cX3_init 60 = .ok (.iload_n 1, 1) := by decide +kernel
theorem dX3_init_61 : decode cX3_init 61 = .ok (.aaload, 1) := by decide +kernel
theorem dX3_init_62 : decode cX3_init 62 = .ok (.iconst (-1), 1) := by decide +kernel
theorem dX3_init_63 : decode cX3_init 63 = .ok (.invokestatic 20, 3) := by decide +kernel
theorem dX3_init_66 : decode cX3_init 66 = .ok (.iinc 1 1, 3) := by decide +kernel
theorem dX3_init_69 : decode cX3_init 69 = .ok (.goto (-19), 3) := by decide +kernel
theorem dX3_init_72 : decode cX3_init 72 = .ok (.return_, 1) := by decide +kernel
theorem dX3_ofBecoming_0 : decode cX3_ofBecoming 0 = .ok (.iload_n 1, 1) := by decide +kernel
theorem dX3_ofBecoming_1 : decode cX3_ofBecoming 1 = .ok (.iload_n 2, 1) := by decide +kernel
theorem dX3_ofBecoming_2 : decode cX3_ofBecoming 2 = .ok (.if_icmp .ne 5, 3) := by decide +kernel
theorem dX3_ofBecoming_5 : decode cX3_ofBecoming 5 = .ok (.iconst 0, 1) := by decide +kernel
theorem dX3_ofBecoming_6 : decode cX3_ofBecoming 6 = .ok (.ireturn, 1) := by decide +kernel
theorem dX3_ofBecoming_7 : decode cX3_ofBecoming 7 = .ok (.aload_n 0, 1) := by decide +kernel
theorem dX3_ofBecoming_8 : decode cX3_ofBecoming 8 = .ok (.getfield 17, 3) := by decide +kernel
theorem dX3_ofBecoming_11 : decode cX3_ofBecoming 11 = .ok (.iload_n 1, 1) := by decide +kernel
theorem dX3_ofBecoming_12 : decode cX3_ofBecoming 12 = .ok (.aaload, 1) := by decide +kernel
theorem dX3_ofBecoming_13 : decode cX3_ofBecoming 13 = .ok (.iload_n 2, 1) := by decide +kernel
theorem dX3_ofBecoming_14 : decode cX3_ofBecoming 14 = .ok (.iaload, 1) := by decide +kernel
theorem dX3_ofBecoming_15 : decode cX3_ofBecoming 15 = .ok (.istore_n 3, 1) := by decide +kernel
theorem dX3_ofBecoming_16 : decode cX3_ofBecoming 16 = .ok (.iload_n 3, 1) := by decide +kernel
theorem dX3_ofBecoming_17 : decode cX3_ofBecoming 17 = .ok (.iconst (-1), 1) := by decide +kernel
theorem dX3_ofBecoming_18 : decode cX3_ofBecoming 18 = .ok (.if_icmp .ne 12, 3) := by decide +kernel
theorem dX3_ofBecoming_21 : decode cX3_ofBecoming 21 = .ok (.aload_n 0, 1) := by decide +kernel
theorem dX3_ofBecoming_22 : decode cX3_ofBecoming 22 = .ok (.getfield 9, 3) := by decide +kernel
theorem dX3_ofBecoming_25 : decode cX3_ofBecoming 25 = .ok (.iconst 2, 1) := by decide +kernel
theorem dX3_ofBecoming_26 : decode cX3_ofBecoming 26 = .ok (.iaload, 1) := by decide +kernel
theorem dX3_ofBecoming_27 : decode cX3_ofBecoming 27 = .ok (.goto 4, 3) := by decide +kernel
theorem dX3_ofBecoming_30 : decode cX3_ofBecoming 30 = .ok (.iload_n 3, 1) := by decide +kernel
theorem dX3_ofBecoming_31 : decode cX3_ofBecoming 31 = .ok (.ireturn, 1) := by decide +kernel
theorem dX4_init_0 : decode cX4_init 0 = .ok (.aload_n 0, 1) := by decide +kernel
theorem dX4_init_1 : decode cX4_init 1 = .ok (.invokespecial 3, 3) := by decide +kernel
theorem dX4_init_4 : decode cX4_init 4 = .ok (.aload_n 0, 1) := by decide +kernel
theorem dX4_init_5 : decode cX4_init 5 = .ok (.bipush 60, 2) := by decide +kernel
theorem dX4_init_7 : decode cX4_init 7 = .ok (.newarray .int, 2) := by decide +kernel
theorem dX4_init_9 : decode cX4_init 9 = .ok (.putfield 9, 3) := by decide +kernel
theorem dX4_init_12 : decode cX4_init 12 = .ok (.aload_n 0, 1) := by decide +kernel
theorem dX4_init_13 : decode cX4_init 13 = .ok (.bipush 60, 2) := by decide +kernel
theorem dX4_init_15 : decode cX4_init 15 = .ok (.newarray .int, 2) := by decide +kernel
theorem dX4_init_17 : decode cX4_init 17 = .ok (.putfield 15, 3) := by decide +kernel
theorem dX4_init_20 : decode cX4_init 20 = .ok (.aload_n 0, 1) := by decide +kernel
theorem dX4_init_21 : decode cX4_init 21 = .ok (.bipush 60, 2) := by decide +kernel
theorem dX4_init_23 : decode cX4_init 23 = .ok (.newarray .int, 2) := by decide +kernel
theorem dX4_init_25 : decode cX4_init 25 = .ok (.putfield 18, 3) := by decide +kernel
theorem dX4_init_28 : decode cX4_init 28 = .ok (.aload_n 0, 1) := by decide +kernel
theorem dX4_init_29 : decode cX4_init 29 = .ok (.iconst 0, 1) := by decide +kernel
theorem dX4_init_30 : decode cX4_init 30 = .ok (.putfield 21, 3) := by decide +kernel
theorem dX4_init_33 : decode cX4_init 33 = .ok (.return_, 1) := by decide +kernel
theorem dX4_add_0 : decode cX4_add 0 = .ok (.aload_n 0, 1) := by decide +kernel
theorem dX4_add_1 : decode cX4_add 1 = .ok (.getfield 21, 3) := by decide +kernel
theorem dX4_add_4 : decode cX4_add 4 = .ok (.bipush 60, 2) := by decide +kernel
theorem dX4_add_6 : decode cX4_add 6 = .ok (.if_icmp .lt 4, 3) := by decide +kernel
theorem dX4_add_9 : decode cX4_add 9 = .ok (.return_, 1) := by decide +kernel
theorem dX4_add_10 : decode cX4_add 10 = .ok (.aload_n 0, 1) := by decide +kernel
theorem dX4_add_11 : decode cX4_add 11 = .ok (.getfield 21, 3) := by decide +kernel
theorem dX4_add_14 : decode cX4_add 14 = .ok (.istore 4, 2) := by decide +kernel
theorem dX4_add_16 : decode cX4_add 16 = .ok (.iload 4, 2) := by decide +kernel
theorem dX4_add_18 : decode cX4_add 18 = .ok (.ifCond .le 70, 3) := by decide +kernel
theorem dX4_add_21 : decode cX4_add 21 = .ok (.aload_n 0, 1) := by decide +kernel
theorem dX4_add_22 : decode cX4_add 22 = .ok (.iload 4, 2) := by decide +kernel
theorem dX4_add_24 : decode cX4_add 24 = .ok (.iconst 1, 1) := by decide +kernel
theorem dX4_add_25 : decode cX4_add 25 = .ok (.isub, 1) := by decide +kernel
theorem dX4_add_26 : decode cX4_add 26 = .ok (.iload_n 2, 1) := by decide +kernel
theorem dX4_add_27 : decode cX4_add 27 = .ok (.iload_n 3, 1) := by decide +kernel
theorem dX4_add_28 : decode cX4_add 28 = .ok (.invokevirtual 25, 3) := by decide +kernel
theorem dX4_add_31 : decode cX4_add 31 = .ok (.ifCond .eq 57, 3) := by decide +kernel
theorem dX4_add_34 : decode cX4_add 34 = .ok (.aload_n 0, 1) := by decide +kernel
theorem dX4_add_35 : decode cX4_add 35 = .ok (.getfield 9, 3) := by decide +kernel
theorem dX4_add_38 : decode cX4_add 38 = .ok (.iload 4, 2) := by decide +kernel
theorem dX4_add_40 : decode cX4_add 40 = .ok (.aload_n 0, 1) := by decide +kernel
theorem dX4_add_41 : decode cX4_add 41 = .ok (.getfield 9, 3) := by decide +kernel
theorem dX4_add_44 : decode cX4_add 44 = .ok (.iload 4, 2) := by decide +kernel
theorem dX4_add_46 : decode cX4_add 46 = .ok (.iconst 1, 1) := by decide +kernel
theorem dX4_add_47 : decode cX4_add 47 = .ok (.isub, 1) := by decide +kernel
theorem dX4_add_48 : decode cX4_add 48 = .ok (.iaload, 1) := by decide +kernel
theorem dX4_add_49 : decode cX4_add 49 = .ok (.iastore, 1) := by decide +kernel
theorem dX4_add_50 : decode cX4_add 50 = .ok (.aload_n 0, 1) := by decide +kernel
theorem dX4_add_51 : decode cX4_add 51 = .ok (.getfield 15, 3) := by decide +kernel
theorem dX4_add_54 : decode cX4_add 54 = .ok (.iload 4, 2) := by decide +kernel
theorem dX4_add_56 : decode cX4_add 56 = .ok (.aload_n 0, 1) := by decide +kernel
theorem dX4_add_57 : decode cX4_add 57 = .ok (.getfield 15, 3) := by decide +kernel
theorem dX4_add_60 : decode cX4_add 60 = .ok (.iload 4, 2) := by decide +kernel
theorem dX4_add_62 : decode cX4_add 62 = .ok (.iconst 1, 1) := by decide +kernel
theorem dX4_add_63 : decode cX4_add 63 = .ok (.isub, 1) := by decide +kernel
theorem dX4_add_64 : decode cX4_add 64 = .ok (.iaload, 1) := by decide +kernel
theorem dX4_add_65 : decode cX4_add 65 = .ok (.iastore, 1) := by decide +kernel
theorem dX4_add_66 : decode cX4_add 66 = .ok (.aload_n 0, 1) := by decide +kernel
theorem dX4_add_67 : decode cX4_add 67 = .ok (.getfield 18, 3) := by decide +kernel
theorem dX4_add_70 : decode cX4_add 70 = .ok (.iload 4, 2) := by decide +kernel
theorem dX4_add_72 : decode cX4_add 72 = .ok (.aload_n 0, 1) := by decide +kernel
theorem dX4_add_73 : decode cX4_add 73 = .ok (.getfield 18, 3) := by decide +kernel
theorem dX4_add_76 : decode cX4_add 76 = .ok (.iload 4, 2) := by decide +kernel
theorem dX4_add_78 : decode cX4_add 78 = .ok (.iconst 1, 1) := by decide +kernel
theorem dX4_add_79 : decode cX4_add 79 = .ok (.isub, 1) := by decide +kernel
theorem dX4_add_80 : decode cX4_add 80 = .ok (.iaload, 1) := by decide +kernel
theorem dX4_add_81 : decode cX4_add 81 = .ok (.iastore, 1) := by decide +kernel
theorem dX4_add_82 : decode cX4_add 82 = .ok (.iinc 4 (-1), 3) := by decide +kernel
theorem dX4_add_85 : decode cX4_add 85 = .ok (.goto (-69), 3) := by decide +kernel
theorem dX4_add_88 : decode cX4_add 88 = .ok (.aload_n 0, 1) := by decide +kernel
theorem dX4_add_89 : decode cX4_add 89 = .ok (.getfield 9, 3) := by decide +kernel
theorem dX4_add_92 : decode cX4_add 92 = .ok (.iload 4, 2) := by decide +kernel
theorem dX4_add_94 : decode cX4_add 94 = .ok (.iload_n 1, 1) := by decide +kernel
theorem dX4_add_95 : decode cX4_add 95 = .ok (.iastore, 1) := by decide +kernel
theorem dX4_add_96 : decode cX4_add 96 = .ok (.aload_n 0, 1) := by decide +kernel
theorem dX4_add_97 : decode cX4_add 97 = .ok (.getfield 15, 3) := by decide +kernel
theorem dX4_add_100 : decode cX4_add 100 = .ok (.iload 4, 2) := by decide +kernel
theorem dX4_add_102 : decode cX4_add 102 = .ok (.iload_n 2, 1) := by decide +kernel
theorem dX4_add_103 : decode cX4_add 103 = .ok (.iastore, 1) := by decide +kernel
theorem dX4_add_104 : decode cX4_add 104 = .ok (.aload_n 0, 1) := by decide +kernel
theorem dX4_add_105 : decode cX4_add 105 = .ok (.getfield 18, 3) := by decide +kernel
theorem dX4_add_108 : decode cX4_add 108 = .ok (.iload 4, 2) := by decide +kernel
theorem dX4_add_110 : decode cX4_add 110 = .ok (.iload_n 3, 1) := by decide +kernel
theorem dX4_add_111 : decode cX4_add 111 = .ok (.iastore, 1) := by decide +kernel
theorem dX4_add_112 : decode cX4_add 112 = .ok (.aload_n 0, 1) := by decide +kernel
theorem dX4_add_113 : decode cX4_add 113 = .ok (.dup, 1) := by decide +kernel
theorem dX4_add_114 : decode cX4_add 114 = .ok (.getfield 21, 3) := by decide +kernel
theorem dX4_add_117 : decode cX4_add 117 = .ok (.iconst 1, 1) := by decide +kernel
theorem dX4_add_118 : decode cX4_add 118 = .ok (.iadd, 1) := by decide +kernel
theorem dX4_add_119 : decode cX4_add 119 = .ok (.putfield 21, 3) := by decide +kernel
theorem dX4_add_122 : decode cX4_add 122 = .ok (.return_, 1) := by decide +kernel
theorem dX4_isBehind_0 : decode cX4_isBehind 0 = .ok (.aload_n 0, 1) := by decide +kernel
theorem dX4_isBehind_1 : decode cX4_isBehind 1 = .ok (.getfield 15, 3) := by decide +kernel
theorem dX4_isBehind_4 : decode cX4_isBehind 4 = .ok (.iload_n 1, 1) := by decide +kernel
theorem dX4_isBehind_5 : decode cX4_isBehind 5 = .ok (.iaload, 1) := by decide +kernel
theorem dX4_isBehind_6 : decode cX4_isBehind 6 = .ok (.iload_n 2, 1) := by decide +kernel
theorem dX4_isBehind_7 : decode cX4_isBehind 7 = .ok (.if_icmp .gt 23, 3) := by decide +kernel
theorem dX4_isBehind_10 : decode cX4_isBehind 10 = .ok (.aload_n 0, 1) := by decide +kernel
theorem dX4_isBehind_11 : decode cX4_isBehind 11 = .ok (.getfield 15, 3) := by decide +kernel
theorem dX4_isBehind_14 : decode cX4_isBehind 14 = .ok (.iload_n 1, 1) := by decide +kernel
theorem dX4_isBehind_15 : decode cX4_isBehind 15 = .ok (.iaload, 1) := by decide +kernel
theorem dX4_isBehind_16 : decode cX4_isBehind 16 = .ok (.iload_n 2, 1) := by decide +kernel
theorem dX4_isBehind_17 : decode cX4_isBehind 17 = .ok (.if_icmp .ne 17, 3) := by decide +kernel
theorem dX4_isBehind_20 : decode cX4_isBehind 20 = .ok (.aload_n 0, 1) := by decide +kernel
theorem dX4_isBehind_21 : decode cX4_isBehind 21 = .ok (.getfield 18, 3) := by decide +kernel
theorem dX4_isBehind_24 : decode cX4_isBehind 24 = .ok (.iload_n 1, 1) := by decide +kernel
theorem dX4_isBehind_25 : decode cX4_isBehind 25 = .ok (.iaload, 1) := by decide +kernel
theorem dX4_isBehind_26 : decode cX4_isBehind 26 = .ok (.iload_n 3, 1) := by decide +kernel
theorem dX4_isBehind_27 : decode cX4_isBehind 27 = .ok (.if_icmp .ge 7, 3) := by decide +kernel
theorem dX4_isBehind_30 : decode cX4_isBehind 30 = .ok (.iconst 1, 1) := by decide +kernel
theorem dX4_isBehind_31 : decode cX4_isBehind 31 = .ok (.goto 4, 3) := by decide +kernel
theorem dX4_isBehind_34 : decode cX4_isBehind 34 = .ok (.iconst 0, 1) := by decide +kernel
theorem dX4_isBehind_35 : decode cX4_isBehind 35 = .ok (.ireturn, 1) := by decide +kernel
theorem dX5_init_0 : decode cX5_init 0 = .ok (.aload_n 0, 1) := by decide +kernel
theorem dX5_init_1 : decode cX5_init 1 = .ok (.invokespecial 3, 3) := by decide +kernel
theorem dX5_init_4 : decode cX5_init 4 = .ok (.aload_n 0, 1) := by decide +kernel
theorem dX5_init_5 : decode cX5_init 5 = .ok (.bipush 12, 2) := by decide +kernel
theorem dX5_init_7 : decode cX5_init 7 = .ok (.newarray .int, 2) := by decide +kernel
theorem dX5_init_9 : decode cX5_init 9 = .ok (.putfield 9, 3) := by decide +kernel
theorem dX5_init_12 : decode cX5_init 12 = .ok (.aload_n 0, 1) := by decide +kernel
theorem dX5_init_13 : decode cX5_init 13 = .ok (.iconst 0, 1) := by decide +kernel
theorem dX5_init_14 : decode cX5_init 14 = .ok (.putfield 15, 3) := by decide +kernel
theorem dX5_init_17 : decode cX5_init 17 = .ok (.return_, 1) := by decide +kernel
theorem dX5_add_0 : decode cX5_add 0 = .ok (.aload_n 0, 1) := by decide +kernel
theorem dX5_add_1 : decode cX5_add 1 = .ok (.getfield 15, 3) := by decide +kernel
theorem dX5_add_4 : decode cX5_add 4 = .ok (.bipush 12, 2) := by decide +kernel
theorem dX5_add_6 : decode cX5_add 6 = .ok (.if_icmp .lt 5, 3) := by decide +kernel
theorem dX5_add_9 : decode cX5_add 9 = .ok (.iconst 0, 1) := by decide +kernel
theorem dX5_add_10 : decode cX5_add 10 = .ok (.ireturn, 1) := by decide +kernel
theorem dX5_add_11 : decode cX5_add 11 = .ok (.aload_n 0, 1) := by decide +kernel
theorem dX5_add_12 : decode cX5_add 12 = .ok (.getfield 9, 3) := by decide +kernel
theorem dX5_add_15 : decode cX5_add 15 = .ok (.aload_n 0, 1) := by decide +kernel
theorem dX5_add_16 : decode cX5_add 16 = .ok (.getfield 15, 3) := by decide +kernel
theorem dX5_add_19 : decode cX5_add 19 = .ok (.iload_n 1, 1) := by decide +kernel
theorem dX5_add_20 : decode cX5_add 20 = .ok (.iastore, 1) := by decide +kernel
theorem dX5_add_21 : decode cX5_add 21 = .ok (.aload_n 0, 1) := by decide +kernel
theorem dX5_add_22 : decode cX5_add 22 = .ok (.dup, 1) := by decide +kernel
theorem dX5_add_23 : decode cX5_add 23 = .ok (.getfield 15, 3) := by decide +kernel
theorem dX5_add_26 : decode cX5_add 26 = .ok (.iconst 1, 1) := by decide +kernel
theorem dX5_add_27 : decode cX5_add 27 = .ok (.iadd, 1) := by decide +kernel
theorem dX5_add_28 : decode cX5_add 28 = .ok (.putfield 15, 3) := by decide +kernel
theorem dX5_add_31 : decode cX5_add 31 = .ok (.iconst 1, 1) := by decide +kernel
theorem dX5_add_32 : decode cX5_add 32 = .ok (.ireturn, 1) := by decide +kernel
theorem dX5_copyOf_0 : decode cX5_copyOf 0 = .ok (.aload_n 0, 1) := by decide +kernel
theorem dX5_copyOf_1 : decode cX5_copyOf 1 = .ok (.iconst 0, 1) := by decide +kernel
theorem dX5_copyOf_2 : decode cX5_copyOf 2 = .ok (.putfield 15, 3) := by decide +kernel
theorem dX5_copyOf_5 : decode cX5_copyOf 5 = .ok (.iconst 0, 1) := by decide +kernel
theorem dX5_copyOf_6 : decode cX5_copyOf 6 = .ok (.istore_n 2, 1) := by decide +kernel
theorem dX5_copyOf_7 : decode cX5_copyOf 7 = .ok (.iload_n 2, 1) := by decide +kernel
theorem dX5_copyOf_8 : decode cX5_copyOf 8 = .ok (.aload_n 1, 1) := by decide +kernel
theorem dX5_copyOf_9 : decode cX5_copyOf 9 = .ok (.getfield 15, 3) := by decide +kernel
theorem dX5_copyOf_12 : decode cX5_copyOf 12 = .ok (.if_icmp .ge 20, 3) := by decide +kernel
theorem dX5_copyOf_15 : decode cX5_copyOf 15 = .ok (.aload_n 0, 1) := by decide +kernel
theorem dX5_copyOf_16 : decode cX5_copyOf 16 = .ok (.aload_n 1, 1) := by decide +kernel
theorem dX5_copyOf_17 : decode cX5_copyOf 17 = .ok (.getfield 9, 3) := by decide +kernel
theorem dX5_copyOf_20 : decode cX5_copyOf 20 = .ok (.iload_n 2, 1) := by decide +kernel
theorem dX5_copyOf_21 : decode cX5_copyOf 21 = .ok (.iaload, 1) := by decide +kernel
theorem dX5_copyOf_22 : decode cX5_copyOf 22 = .ok (.invokevirtual 19, 3) := by decide +kernel
theorem dX5_copyOf_25 : decode cX5_copyOf 25 = .ok (.pop, 1) := by decide +kernel
theorem dX5_copyOf_26 : decode cX5_copyOf 26 = .ok (.iinc 2 1, 3) := by decide +kernel
theorem dX5_copyOf_29 : decode cX5_copyOf 29 = .ok (.goto (-22), 3) := by decide +kernel
theorem dX5_copyOf_32 : decode cX5_copyOf 32 = .ok (.return_, 1) := by decide +kernel
theorem dX5_mirrorOf_0 : decode cX5_mirrorOf 0 = .ok (.aload_n 0, 1) := by decide +kernel
theorem dX5_mirrorOf_1 : decode cX5_mirrorOf 1 = .ok (.iconst 0, 1) := by decide +kernel
theorem dX5_mirrorOf_2 : decode cX5_mirrorOf 2 = .ok (.putfield 15, 3) := by decide +kernel
theorem dX5_mirrorOf_5 : decode cX5_mirrorOf 5 = .ok (.aload_n 1, 1) := by decide +kernel
theorem dX5_mirrorOf_6 : decode cX5_mirrorOf 6 = .ok (.getfield 15, 3) := by decide +kernel
theorem dX5_mirrorOf_9 : decode cX5_mirrorOf 9 = .ok (.iconst 1, 1) := by decide +kernel
theorem dX5_mirrorOf_10 : decode cX5_mirrorOf 10 = .ok (.isub, 1) := by decide +kernel
theorem dX5_mirrorOf_11 : decode cX5_mirrorOf 11 = .ok (.istore_n 2, 1) := by decide +kernel
theorem dX5_mirrorOf_12 : decode cX5_mirrorOf 12 = .ok (.iload_n 2, 1) := by decide +kernel
theorem dX5_mirrorOf_13 : decode cX5_mirrorOf 13 = .ok (.ifCond .lt 20, 3) := by decide +kernel
theorem dX5_mirrorOf_16 : decode cX5_mirrorOf 16 = .ok (.aload_n 0, 1) := by decide +kernel
theorem dX5_mirrorOf_17 : decode cX5_mirrorOf 17 = .ok (.aload_n 1, 1) := by decide +kernel
theorem dX5_mirrorOf_18 : decode cX5_mirrorOf 18 = .ok (.getfield 9, 3) := by decide +kernel
theorem dX5_mirrorOf_21 : decode cX5_mirrorOf 21 = .ok (.iload_n 2, 1) := by decide +kernel
theorem dX5_mirrorOf_22 : decode cX5_mirrorOf 22 = .ok (.iaload, 1) := by decide +kernel
theorem dX5_mirrorOf_23 : decode cX5_mirrorOf 23 = .ok (.invokevirtual 19, 3) := by decide +kernel
theorem dX5_mirrorOf_26 : decode cX5_mirrorOf 26 = .ok (.pop, 1) := by decide +kernel
theorem dX5_mirrorOf_27 : decode cX5_mirrorOf 27 = .ok (.iinc 2 (-1), 3) := by decide +kernel
theorem dX5_mirrorOf_30 : decode cX5_mirrorOf 30 = .ok (.goto (-18), 3) := by decide +kernel
theorem dX5_mirrorOf_33 : decode cX5_mirrorOf 33 = .ok (.return_, 1) := by decide +kernel
theorem dX5_compareWith_0 : decode cX5_compareWith 0 = .ok (.aload_n 0, 1) := by decide +kernel
theorem dX5_compareWith_1 : decode cX5_compareWith 1 = .ok (.getfield 15, 3) := by decide +kernel
theorem dX5_compareWith_4 : decode cX5_compareWith 4 = .ok (.aload_n 1, 1) := by decide +kernel
theorem dX5_compareWith_5 : decode cX5_compareWith 5 = .ok (.getfield 15, 3) := by decide +kernel
theorem dX5_compareWith_8 : decode cX5_compareWith 8 = .ok (.invokestatic 23, 3) := by decide +kernel
theorem dX5_compareWith_11 : decode cX5_compareWith 11 = .ok (.istore_n 2, 1) := by decide +kernel
theorem dX5_compareWith_12 : decode cX5_compareWith 12 = .ok (.iconst 0, 1) := by decide +kernel
theorem dX5_compareWith_13 : decode cX5_compareWith 13 = .ok (.istore_n 3, 1) := by decide +kernel
theorem dX5_compareWith_14 : decode cX5_compareWith 14 = .ok (.iload_n 3, 1) := by decide +kernel
theorem dX5_compareWith_15 : decode cX5_compareWith 15 = .ok (.iload_n 2, 1) := by decide +kernel
theorem dX5_compareWith_16 : decode cX5_compareWith 16 = .ok (.if_icmp .ge 38, 3) := by decide +kernel
theorem dX5_compareWith_19 : decode cX5_compareWith 19 = .ok (.aload_n 0, 1) := by decide +kernel
theorem dX5_compareWith_20 : decode cX5_compareWith 20 = .ok (.getfield 9, 3) := by decide +kernel
theorem dX5_compareWith_23 : decode cX5_compareWith 23 = .ok (.iload_n 3, 1) := by decide +kernel
theorem dX5_compareWith_24 : decode cX5_compareWith 24 = .ok (.iaload, 1) := by decide +kernel
theorem dX5_compareWith_25 : decode cX5_compareWith 25 = .ok (.aload_n 1, 1) := by decide +kernel
theorem dX5_compareWith_26 : decode cX5_compareWith 26 = .ok (.getfield 9, 3) := by decide +kernel
theorem dX5_compareWith_29 : decode cX5_compareWith 29 = .ok (.iload_n 3, 1) := by decide +kernel
theorem dX5_compareWith_30 : decode cX5_compareWith 30 = .ok (.iaload, 1) := by decide +kernel
theorem dX5_compareWith_31 : decode cX5_compareWith 31 = .ok (.if_icmp .eq 17, 3) := by decide +kernel
theorem dX5_compareWith_34 : decode cX5_compareWith 34 = .ok (.aload_n 0, 1) := by decide +kernel
theorem dX5_compareWith_35 : decode cX5_compareWith 35 = .ok (.getfield 9, 3) := by decide +kernel
theorem dX5_compareWith_38 : decode cX5_compareWith 38 = .ok (.iload_n 3, 1) := by decide +kernel
theorem dX5_compareWith_39 : decode cX5_compareWith 39 = .ok (.iaload, 1) := by decide +kernel
theorem dX5_compareWith_40 : decode cX5_compareWith 40 = .ok (.aload_n 1, 1) := by decide +kernel
theorem dX5_compareWith_41 : decode cX5_compareWith 41 = .ok (.getfield 9, 3) := by decide +kernel
theorem dX5_compareWith_44 : decode cX5_compareWith 44 = .ok (.iload_n 3, 1) := by decide +kernel
theorem dX5_compareWith_45 : decode cX5_compareWith 45 = .ok (.iaload, 1) := by decide +kernel
theorem dX5_compareWith_46 : decode cX5_compareWith 46 = .ok (.isub, 1) := by decide +kernel
theorem dX5_compareWith_47 : decode cX5_compareWith 47 = .ok (.ireturn, 1) := by decide +kernel
theorem dX5_compareWith_48 : decode cX5_compareWith 48 = .ok (.iinc 3 1, 3) := by decide +kernel
theorem dX5_compareWith_51 : decode cX5_compareWith 51 = .ok (.goto (-37), 3) := by decide +kernel
theorem dX5_compareWith_54 : decode cX5_compareWith 54 = .ok (.aload_n 0, 1) := by decide +kernel
theorem dX5_compareWith_55 : decode cX5_compareWith 55 = .ok (.getfield 15, 3) := by decide +kernel
theorem dX5_compareWith_58 : decode cX5_compareWith 58 = .ok (.aload_n 1, 1) := by decide +kernel
theorem dX5_compareWith_59 : decode cX5_compareWith 59 = .ok (.getfield 15, 3) := by decide +kernel
theorem dX5_compareWith_62 : decode cX5_compareWith 62 = .ok (.isub, 1) := by decide +kernel
theorem dX5_compareWith_63 : decode cX5_compareWith 63 = .ok (.ireturn, 1) := by decide +kernel
theorem dX6_init_0 : decode cX6_init 0 = .ok (.aload_n 0, 1) := by decide +kernel
theorem dX6_init_1 : decode cX6_init 1 = .ok (.invokespecial 3, 3) := by decide +kernel
theorem dX6_init_4 : decode cX6_init 4 = .ok (.aload_n 0, 1) := by decide +kernel
theorem dX6_init_5 : decode cX6_init 5 = .ok (.bipush 13, 2) := by decide +kernel
theorem dX6_init_7 : decode cX6_init 7 = .ok (.newarray .int, 2) := by decide +kernel
theorem dX6_init_9 : decode cX6_init 9 = .ok (.putfield 9, 3) := by decide +kernel
theorem dX6_init_12 : decode cX6_init 12 = .ok (.aload_n 0, 1) := by decide +kernel
theorem dX6_init_13 : decode cX6_init 13 = .ok (.bipush 13, 2) := by decide +kernel
theorem dX6_init_15 : decode cX6_init 15 = .ok (.newarray .int, 2) := by decide +kernel
theorem dX6_init_17 : decode cX6_init 17 = .ok (.putfield 15, 3) := by decide +kernel
theorem dX6_init_20 : decode cX6_init 20 = .ok (.return_, 1) := by decide +kernel
theorem dX6_empty_0 : decode cX6_empty 0 = .ok (.aload_n 0, 1) := by decide +kernel
theorem dX6_empty_1 : decode cX6_empty 1 = .ok (.getfield 15, 3) := by decide +kernel
theorem dX6_empty_4 : decode cX6_empty 4 = .ok (.ldc 18, 2) := by decide +kernel
theorem dX6_empty_6 : decode cX6_empty 6 = .ok (.invokestatic 19, 3) := by decide +kernel
theorem dX6_empty_9 : decode cX6_empty 9 = .ok (.return_, 1) := by decide +kernel
theorem dX6_offer_0 : decode cX6_offer 0 = .ok (.iconst 1, 1) := by decide +kernel
theorem dX6_offer_1 : decode cX6_offer 1 = .ok (.istore 4, 2) := by decide +kernel
theorem dX6_offer_3 : decode cX6_offer 3 = .ok (.iload 4, 2) := by decide +kernel
theorem dX6_offer_5 : decode cX6_offer 5 = .ok (.iload_n 3, 1) := by decide +kernel
theorem dX6_offer_6 : decode cX6_offer 6 = .ok (.if_icmp .gt 46, 3) := by decide +kernel
theorem dX6_offer_9 : decode cX6_offer 9 = .ok (.aload_n 2, 1) := by decide +kernel
theorem dX6_offer_10 : decode cX6_offer 10 = .ok (.iload 4, 2) := by decide +kernel
theorem dX6_offer_12 : decode cX6_offer 12 = .ok (.invokevirtual 25, 3) := by decide +kernel
theorem dX6_offer_15 : decode cX6_offer 15 = .ok (.istore 5, 2) := by decide +kernel
theorem dX6_offer_17 : decode cX6_offer 17 = .ok (.iload 5, 2) := by decide +kernel
theorem dX6_offer_19 : decode cX6_offer 19 = .ok (.aload_n 0, 1) := by decide +kernel
theorem dX6_offer_20 : decode cX6_offer 20 = .ok (.getfield 15, 3) := by decide +kernel
theorem dX6_offer_23 : decode cX6_offer 23 = .ok (.iload 4, 2) := by decide +kernel
theorem dX6_offer_25 : decode cX6_offer 25 = .ok (.iaload, 1) := by decide +kernel
theorem dX6_offer_26 : decode cX6_offer 26 = .ok (.if_icmp .ge 20, 3) := by decide +kernel
theorem dX6_offer_29 : decode cX6_offer 29 = .ok (.aload_n 0, 1) := by decide +kernel
theorem dX6_offer_30 : decode cX6_offer 30 = .ok (.getfield 15, 3) := by decide +kernel
theorem dX6_offer_33 : decode cX6_offer 33 = .ok (.iload 4, 2) := by decide +kernel
theorem dX6_offer_35 : decode cX6_offer 35 = .ok (.iload 5, 2) := by decide +kernel
theorem dX6_offer_37 : decode cX6_offer 37 = .ok (.iastore, 1) := by decide +kernel
theorem dX6_offer_38 : decode cX6_offer 38 = .ok (.aload_n 0, 1) := by decide +kernel
theorem dX6_offer_39 : decode cX6_offer 39 = .ok (.getfield 9, 3) := by decide +kernel
theorem dX6_offer_42 : decode cX6_offer 42 = .ok (.iload 4, 2) := by decide +kernel
theorem dX6_offer_44 : decode cX6_offer 44 = .ok (.iload_n 1, 1) := by decide +kernel
theorem dX6_offer_45 : decode cX6_offer 45 = .ok (.iastore, 1) := by decide +kernel
theorem dX6_offer_46 : decode cX6_offer 46 = .ok (.iinc 4 1, 3) := by decide +kernel
theorem dX6_offer_49 : decode cX6_offer 49 = .ok (.goto (-46), 3) := by decide +kernel
theorem dX6_offer_52 : decode cX6_offer 52 = .ok (.return_, 1) := by decide +kernel
theorem dX7_init_0 : decode cX7_init 0 = .ok (.aload_n 0, 1) := by decide +kernel
theorem dX7_init_1 : decode cX7_init 1 = .ok (.invokespecial 3, 3) := by decide +kernel
theorem dX7_init_4 : decode cX7_init 4 = .ok (.aload_n 0, 1) := by decide +kernel
theorem dX7_init_5 : decode cX7_init 5 = .ok (.new 9, 3) := by decide +kernel
theorem dX7_init_8 : decode cX7_init 8 = .ok (.dup, 1) := by decide +kernel
theorem dX7_init_9 : decode cX7_init 9 = .ok (.invokespecial 11, 3) := by decide +kernel
theorem dX7_init_12 : decode cX7_init 12 = .ok (.putfield 12, 3) := by decide +kernel
theorem dX7_init_15 : decode cX7_init 15 = .ok (.aload_n 0, 1) := by decide +kernel
theorem dX7_init_16 : decode cX7_init 16 = .ok (.new 9, 3) := by decide +kernel
theorem dX7_init_19 : decode cX7_init 19 = .ok (.dup, 1) := by decide +kernel
theorem dX7_init_20 : decode cX7_init 20 = .ok (.invokespecial 11, 3) := by decide +kernel
theorem dX7_init_23 : decode cX7_init 23 = .ok (.putfield 18, 3) := by decide +kernel
theorem dX7_init_26 : decode cX7_init 26 = .ok (.aload_n 0, 1) := by decide +kernel
theorem dX7_init_27 : decode cX7_init 27 = .ok (.bipush 13, 2) := by decide +kernel
theorem dX7_init_29 : decode cX7_init 29 = .ok (.bipush 13, 2) := by decide +kernel
theorem dX7_init_31 : decode cX7_init 31 = .ok (.multianewarray 21 2, 4) := by decide +kernel
theorem dX7_init_35 : decode cX7_init 35 = .ok (.putfield 23, 3) := by decide +kernel
theorem dX7_init_38 : decode cX7_init 38 = .ok (.aload_n 0, 1) := by decide +kernel
theorem dX7_init_39 : decode cX7_init 39 = .ok (.bipush 24, 2) := by decide +kernel
theorem dX7_init_41 : decode cX7_init 41 = .ok (.newarray .int, 2) := by decide +kernel
theorem dX7_init_43 : decode cX7_init 43 = .ok (.putfield 26, 3) := by decide +kernel
theorem dX7_init_46 : decode cX7_init 46 = .ok (.aload_n 0, 1) := by decide +kernel
theorem dX7_init_47 : decode cX7_init 47 = .ok (.bipush 24, 2) := by decide +kernel
theorem dX7_init_49 : decode cX7_init 49 = .ok (.newarray .int, 2) := by decide +kernel
theorem dX7_init_51 : decode cX7_init 51 = .ok (.putfield 30, 3) := by decide +kernel
theorem dX7_init_54 : decode cX7_init 54 = .ok (.aload_n 0, 1) := by decide +kernel
theorem dX7_init_55 : decode cX7_init 55 = .ok (.iconst 0, 1) := by decide +kernel
theorem dX7_init_56 : decode cX7_init 56 = .ok (.putfield 33, 3) := by decide +kernel
theorem dX7_init_59 : decode cX7_init 59 = .ok (.aload_n 0, 1) := by decide +kernel
theorem dX7_init_60 : decode cX7_init 60 = .ok (.aload_n 1, 1) := by decide +kernel
theorem dX7_init_61 : decode cX7_init 61 = .ok (.putfield 37, 3) := by decide +kernel
theorem dX7_init_64 : decode cX7_init 64 = .ok (.return_, 1) := by decide +kernel
theorem dX7_measure_0 : decode cX7_measure 0 = .ok (.aload_n 0, 1) := by decide +kernel
theorem dX7_measure_1 : decode cX7_measure 1 = .ok (.getfield 12, 3) := by decide +kernel
theorem dX7_measure_4 : decode cX7_measure 4 = .ok (.aload_n 1, 1) := by decide +kernel
theorem dX7_measure_5 : decode cX7_measure 5 = .ok (.invokevirtual 41, 3) := by decide +kernel
theorem dX7_measure_8 : decode cX7_measure 8 = .ok (.aload_n 0, 1) := by decide +kernel
theorem dX7_measure_9 : decode cX7_measure 9 = .ok (.getfield 18, 3) := by decide +kernel
theorem dX7_measure_12 : decode cX7_measure 12 = .ok (.aload_n 2, 1) := by decide +kernel
theorem dX7_measure_13 : decode cX7_measure 13 = .ok (.invokevirtual 41, 3) := by decide +kernel
theorem dX7_measure_16 : decode cX7_measure 16 = .ok (.aload_n 0, 1) := by decide +kernel
theorem dX7_measure_17 : decode cX7_measure 17 = .ok (.invokevirtual 45, 3) := by decide +kernel
theorem dX7_measure_20 : decode cX7_measure 20 = .ok (.aload_n 0, 1) := by decide +kernel
theorem dX7_measure_21 : decode cX7_measure 21 = .ok (.aload_n 0, 1) := by decide +kernel
theorem dX7_measure_22 : decode cX7_measure 22 = .ok (.getfield 12, 3) := by decide +kernel
theorem dX7_measure_25 : decode cX7_measure 25 = .ok (.getfield 48, 3) := by decide +kernel
theorem dX7_measure_28 : decode cX7_measure 28 = .ok (.invokevirtual 51, 3) := by decide +kernel
theorem dX7_measure_31 : decode cX7_measure 31 = .ok (.ireturn, 1) := by decide +kernel
theorem dX7_measureMirrored_0 : decode cX7_measureMirrored 0 = .ok (.aload_n 0, 1) := by decide +kernel
theorem dX7_measureMirrored_1 : decode cX7_measureMirrored 1 = .ok (.getfield 12, 3) := by decide +kernel
theorem dX7_measureMirrored_4 : decode cX7_measureMirrored 4 = .ok (.aload_n 1, 1) := by decide +kernel
theorem dX7_measureMirrored_5 : decode cX7_measureMirrored 5 = .ok (.invokevirtual 55, 3) := by decide +kernel
theorem dX7_measureMirrored_8 : decode cX7_measureMirrored 8 = .ok (.aload_n 0, 1) := by decide +kernel
theorem dX7_measureMirrored_9 : decode cX7_measureMirrored 9 = .ok (.getfield 18, 3) := by decide +kernel
theorem dX7_measureMirrored_12 : decode cX7_measureMirrored 12 = .ok (.aload_n 2, 1) := by decide +kernel
theorem dX7_measureMirrored_13 : decode cX7_measureMirrored 13 = .ok (.invokevirtual 55, 3) := by decide +kernel
theorem dX7_measureMirrored_16 : decode cX7_measureMirrored 16 = .ok (.aload_n 0, 1) := by decide +kernel
theorem dX7_measureMirrored_17 : decode cX7_measureMirrored 17 = .ok (.invokevirtual 45, 3) := by decide +kernel
theorem dX7_measureMirrored_20 : decode cX7_measureMirrored 20 = .ok (.return_, 1) := by decide +kernel
theorem dX7_priceOfFirst_0 : decode cX7_priceOfFirst 0 = .ok (.iload_n 1, 1) := by decide +kernel
theorem dX7_priceOfFirst_1 : decode cX7_priceOfFirst 1 = .ok (.ifCond .lt 14, 3) := by decide +kernel
theorem dX7_priceOfFirst_4 : decode cX7_priceOfFirst 4 = .ok (.iload_n 1, 1) := by decide +kernel
theorem dX7_priceOfFirst_5 : decode cX7_priceOfFirst 5 = .ok (.aload_n 0, 1) := by decide +kernel
theorem dX7_priceOfFirst_6 : decode cX7_priceOfFirst 6 = .ok (.getfield 12, 3) := by decide +kernel
theorem dX7_priceOfFirst_9 : decode cX7_priceOfFirst 9 = .ok (.getfield 48, 3) := by decide +kernel
theorem dX7_priceOfFirst_12 : decode cX7_priceOfFirst 12 = .ok (.if_icmp .le 8, 3) := by decide +kernel
theorem dX7_priceOfFirst_15 : decode cX7_priceOfFirst 15 = .ok (.ldc 58, 2) := by decide +kernel
theorem dX7_priceOfFirst_17 : decode cX7_priceOfFirst 17 = .ok (.goto 17, 3) := by decide +kernel
theorem dX7_priceOfFirst_20 : decode cX7_priceOfFirst 20 = .ok (.aload_n 0, 1) := by decide +kernel
theorem dX7_priceOfFirst_21 : decode cX7_priceOfFirst 21 = .ok (.getfield 23, 3) := by decide +kernel
theorem dX7_priceOfFirst_24 : decode cX7_priceOfFirst 24 = .ok (.iload_n 1, 1) := by decide +kernel
theorem dX7_priceOfFirst_25 : decode cX7_priceOfFirst 25 = .ok (.aaload, 1) := by decide +kernel
theorem dX7_priceOfFirst_26 : decode cX7_priceOfFirst 26 = .ok (.aload_n 0, 1) := by decide +kernel
theorem dX7_priceOfFirst_27 : decode cX7_priceOfFirst 27 = .ok (.getfield 18, 3) := by decide +kernel
theorem dX7_priceOfFirst_30 : decode cX7_priceOfFirst 30 = .ok (.getfield 48, 3) := by decide +kernel
theorem dX7_priceOfFirst_33 : decode cX7_priceOfFirst 33 = .ok (.iaload, 1) := by decide +kernel
theorem dX7_priceOfFirst_34 : decode cX7_priceOfFirst 34 = .ok (.ireturn, 1) := by decide +kernel
theorem dX7_leastOfBeginnings_0 : decode cX7_leastOfBeginnings 0 = .ok (.ldc 58, 2) := by decide +kernel
theorem dX7_leastOfBeginnings_2 : decode cX7_leastOfBeginnings 2 = .ok (.istore_n 1, 1) := by decide +kernel
theorem dX7_leastOfBeginnings_3 : decode cX7_leastOfBeginnings 3 = .ok (.iconst 0, 1) := by decide +kernel
theorem dX7_leastOfBeginnings_4 : decode cX7_leastOfBeginnings 4 = .ok (.istore_n 2, 1) := by decide +kernel
theorem dX7_leastOfBeginnings_5 : decode cX7_leastOfBeginnings 5 = .ok (.iload_n 2, 1) := by decide +kernel
theorem dX7_leastOfBeginnings_6 : decode cX7_leastOfBeginnings 6 = .ok (.aload_n 0, 1) := by decide +kernel
theorem dX7_leastOfBeginnings_7 : decode cX7_leastOfBeginnings 7 = .ok (.getfield 18, 3) := by decide +kernel
theorem dX7_leastOfBeginnings_10 : decode cX7_leastOfBeginnings 10 = .ok (.getfield 48, 3) := by decide +kernel
theorem dX7_leastOfBeginnings_13 : decode cX7_leastOfBeginnings 13 = .ok (.if_icmp .gt 28, 3) := by decide +kernel
theorem dX7_leastOfBeginnings_16 : decode cX7_leastOfBeginnings 16 = .ok (.iload_n 1, 1) := by decide +kernel
theorem dX7_leastOfBeginnings_17 : decode cX7_leastOfBeginnings 17 = .ok (.aload_n 0, 1) := by decide +kernel
theorem dX7_leastOfBeginnings_18 : decode cX7_leastOfBeginnings 18 = .ok (.getfield 23, 3) := by decide +kernel
theorem dX7_leastOfBeginnings_21 : decode cX7_leastOfBeginnings 21 = .ok (.aload_n 0, 1) := by decide +kernel
theorem dX7_leastOfBeginnings_22 : decode cX7_leastOfBeginnings 22 = .ok (.getfield 12, 3) := by decide +kernel
theorem dX7_leastOfBeginnings_25 : decode cX7_leastOfBeginnings 25 = .ok (.getfield 48, 3) := by decide +kernel
theorem dX7_leastOfBeginnings_28 : decode cX7_leastOfBeginnings 28 = .ok (.aaload, 1) := by decide +kernel
theorem dX7_leastOfBeginnings_29 : decode cX7_leastOfBeginnings 29 = .ok (.iload_n 2, 1) := by decide +kernel
theorem dX7_leastOfBeginnings_30 : decode cX7_leastOfBeginnings 30 = .ok (.iaload, 1) := by decide +kernel
theorem dX7_leastOfBeginnings_31 : decode cX7_leastOfBeginnings 31 = .ok (.invokestatic 59, 3) := by decide +kernel
theorem dX7_leastOfBeginnings_34 : decode cX7_leastOfBeginnings 34 = .ok (.istore_n 1, 1) := by decide +kernel
theorem dX7_leastOfBeginnings_35 : decode cX7_leastOfBeginnings 35 = .ok (.iinc 2 1, 3) := by decide +kernel
theorem dX7_leastOfBeginnings_38 : decode cX7_leastOfBeginnings 38 = .ok (.goto (-33), 3) := by decide +kernel
theorem dX7_leastOfBeginnings_41 : decode cX7_leastOfBeginnings 41 = .ok (.iload_n 1, 1) := by decide +kernel
theorem dX7_leastOfBeginnings_42 : decode cX7_leastOfBeginnings 42 = .ok (.ireturn, 1) := by decide +kernel
theorem dX7_trace_0 : decode cX7_trace 0 = .ok (.aload_n 0, 1) := by decide +kernel
theorem dX7_trace_1 : decode cX7_trace 1 = .ok (.iconst 0, 1) := by decide +kernel
theorem dX7_trace_2 : decode cX7_trace 2 = .ok (.putfield 33, 3) := by decide +kernel
theorem dX7_trace_5 : decode cX7_trace 5 = .ok (.aload_n 0, 1) := by decide +kernel
theorem dX7_trace_6 : decode cX7_trace 6 = .ok (.getfield 12, 3) := by decide +kernel
theorem dX7_trace_9 : decode cX7_trace 9 = .ok (.getfield 48, 3) := by decide +kernel
theorem dX7_trace_12 : decode cX7_trace 12 = .ok (.istore_n 1, 1) := by decide +kernel
theorem dX7_trace_13 : decode cX7_trace 13 = .ok (.aload_n 0, 1) := by decide +kernel
theorem dX7_trace_14 : decode cX7_trace 14 = .ok (.getfield 18, 3) := by decide +kernel
theorem dX7_trace_17 : decode cX7_trace 17 = .ok (.getfield 48, 3) := by decide +kernel
theorem dX7_trace_20 : decode cX7_trace 20 = .ok (.istore_n 2, 1) := by decide +kernel
theorem dX7_trace_21 : decode cX7_trace 21 = .ok (.iconst 0, 1) := by decide +kernel
theorem dX7_trace_22 : decode cX7_trace 22 = .ok (.istore_n 3, 1) := by decide +kernel
theorem dX7_trace_23 : decode cX7_trace 23 = .ok (.iload_n 3, 1) := by decide +kernel
theorem dX7_trace_24 : decode cX7_trace 24 = .ok (.bipush 24, 2) := by decide +kernel
theorem dX7_trace_26 : decode cX7_trace 26 = .ok (.if_icmp .ge 169, 3) := by decide +kernel
theorem dX7_trace_29 : decode cX7_trace 29 = .ok (.iload_n 1, 1) := by decide +kernel
theorem dX7_trace_30 : decode cX7_trace 30 = .ok (.iload_n 2, 1) := by decide +kernel
theorem dX7_trace_31 : decode cX7_trace 31 = .ok (.iadd, 1) := by decide +kernel
theorem dX7_trace_32 : decode cX7_trace 32 = .ok (.ifCond .le 163, 3) := by decide +kernel
theorem dX7_trace_35 : decode cX7_trace 35 = .ok (.aload_n 0, 1) := by decide +kernel
theorem dX7_trace_36 : decode cX7_trace 36 = .ok (.getfield 23, 3) := by decide +kernel
theorem dX7_trace_39 : decode cX7_trace 39 = .ok (.iload_n 1, 1) := by decide +kernel
theorem dX7_trace_40 : decode cX7_trace 40 = .ok (.aaload, 1) := by decide +kernel
theorem dX7_trace_41 : decode cX7_trace 41 = .ok (.iload_n 2, 1) := by decide +kernel
theorem dX7_trace_42 : decode cX7_trace 42 = .ok (.iaload, 1) := by decide +kernel
theorem dX7_trace_43 : decode cX7_trace 43 = .ok (.istore 4, 2) := by decide +kernel
theorem dX7_trace_45 : decode cX7_trace 45 = .ok (.iload_n 1, 1) := by decide +kernel
theorem dX7_trace_46 : decode cX7_trace 46 = .ok (.ifCond .le 54, 3) := by decide +kernel
theorem dX7_trace_49 : decode cX7_trace 49 = .ok (.iload_n 2, 1) := by decide +kernel
theorem dX7_trace_50 : decode cX7_trace 50 = .ok (.ifCond .le 50, 3) := by decide +kernel
theorem dX7_trace_53 : decode cX7_trace 53 = .ok (.iload 4, 2) := by decide +kernel
theorem dX7_trace_55 : decode cX7_trace 55 = .ok (.aload_n 0, 1) := by decide +kernel
theorem dX7_trace_56 : decode cX7_trace 56 = .ok (.iload_n 1, 1) := by decide +kernel
theorem dX7_trace_57 : decode cX7_trace 57 = .ok (.iload_n 2, 1) := by decide +kernel
theorem dX7_trace_58 : decode cX7_trace 58 = .ok (.invokevirtual 65, 3) := by decide +kernel
theorem dX7_trace_61 : decode cX7_trace 61 = .ok (.if_icmp .ne 39, 3) := by decide +kernel
theorem dX7_trace_64 : decode cX7_trace 64 = .ok (.iinc 1 (-1), 3) := by decide +kernel
theorem dX7_trace_67 : decode cX7_trace 67 = .ok (.iinc 2 (-1), 3) := by decide +kernel
theorem dX7_trace_70 : decode cX7_trace 70 = .ok (.aload_n 0, 1) := by decide +kernel
theorem dX7_trace_71 : decode cX7_trace 71 = .ok (.getfield 12, 3) := by decide +kernel
theorem dX7_trace_74 : decode cX7_trace 74 = .ok (.getfield 68, 3) := by decide +kernel
theorem dX7_trace_77 : decode cX7_trace 77 = .ok (.iload_n 1, 1) := by decide +kernel
theorem dX7_trace_78 : decode cX7_trace 78 = .ok (.iaload, 1) := by decide +kernel
theorem dX7_trace_79 : decode cX7_trace 79 = .ok (.aload_n 0, 1) := by decide +kernel
theorem dX7_trace_80 : decode cX7_trace 80 = .ok (.getfield 18, 3) := by decide +kernel
theorem dX7_trace_83 : decode cX7_trace 83 = .ok (.getfield 68, 3) := by decide +kernel
theorem dX7_trace_86 : decode cX7_trace 86 = .ok (.iload_n 2, 1) := by decide +kernel
theorem dX7_trace_87 : decode cX7_trace 87 = .ok (.iaload, 1) := by decide +kernel
theorem dX7_trace_88 : decode cX7_trace 88 = .ok (.if_icmp .eq 101, 3) := by decide +kernel
theorem dX7_trace_91 : decode cX7_trace 91 = .ok (.aload_n 0, 1) := by decide +kernel
theorem dX7_trace_92 : decode cX7_trace 92 = .ok (.iconst 2, 1) := by decide +kernel
theorem dX7_trace_93 : decode cX7_trace 93 = .ok (.iload_n 1, 1) := by decide +kernel
theorem dX7_trace_94 : decode cX7_trace 94 = .ok (.invokevirtual 71, 3) := by decide +kernel
theorem dX7_trace_97 : decode cX7_trace 97 = .ok (.goto 92, 3) := by decide +kernel
theorem dX7_trace_100 : decode cX7_trace 100 = .ok (.aload_n 0, 1) := by decide +kernel
theorem dX7_trace_101 : decode cX7_trace 101 = .ok (.iload_n 1, 1) := by decide +kernel
theorem dX7_trace_102 : decode cX7_trace 102 = .ok (.iload_n 2, 1) := by decide +kernel
theorem dX7_trace_103 : decode cX7_trace 103 = .ok (.invokevirtual 75, 3) := by decide +kernel
theorem dX7_trace_106 : decode cX7_trace 106 = .ok (.ifCond .eq 29, 3) := by decide +kernel
theorem dX7_trace_109 : decode cX7_trace 109 = .ok (.iload 4, 2) := by decide +kernel
theorem dX7_trace_111 : decode cX7_trace 111 = .ok (.aload_n 0, 1) := by decide +kernel
theorem dX7_trace_112 : decode cX7_trace 112 = .ok (.iload_n 1, 1) := by decide +kernel
theorem dX7_trace_113 : decode cX7_trace 113 = .ok (.iload_n 2, 1) := by decide +kernel
theorem dX7_trace_114 : decode cX7_trace 114 = .ok (.invokevirtual 79, 3) := by decide +kernel
theorem dX7_trace_117 : decode cX7_trace 117 = .ok (.if_icmp .ne 18, 3) := by decide +kernel
theorem dX7_trace_120 : decode cX7_trace 120 = .ok (.iinc 1 (-2), 3) := by decide +kernel
theorem dX7_trace_123 : decode cX7_trace 123 = .ok (.iinc 2 (-2), 3) := by decide +kernel
theorem dX7_trace_126 : decode cX7_trace 126 = .ok (.aload_n 0, 1) := by decide +kernel
theorem dX7_trace_127 : decode cX7_trace 127 = .ok (.iconst 3, 1) := by decide +kernel
theorem dX7_trace_128 : decode cX7_trace 128 = .ok (.iload_n 1, 1) := by decide +kernel
theorem dX7_trace_129 : decode cX7_trace 129 = .ok (.invokevirtual 71, 3) := by decide +kernel
theorem dX7_trace_132 : decode cX7_trace 132 = .ok (.goto 57, 3) := by decide +kernel
theorem dX7_trace_135 : decode cX7_trace 135 = .ok (.iload_n 1, 1) := by decide +kernel
theorem dX7_trace_136 : decode cX7_trace 136 = .ok (.ifCond .le 40, 3) := by decide +kernel
theorem dX7_trace_139 : decode cX7_trace 139 = .ok (.iload 4, 2) := by decide +kernel
theorem dX7_trace_141 : decode cX7_trace 141 = .ok (.aload_n 0, 1) := by decide +kernel
theorem dX7_trace_142 : decode cX7_trace 142 = .ok (.getfield 23, 3) := by decide +kernel
theorem dX7_trace_145 : decode cX7_trace 145 = .ok (.iload_n 1, 1) := by decide +kernel
theorem dX7_trace_146 : decode cX7_trace 146 = .ok (.iconst 1, 1) := by decide +kernel
theorem dX7_trace_147 : decode cX7_trace 147 = .ok (.isub, 1) := by decide +kernel
theorem dX7_trace_148 : decode cX7_trace 148 = .ok (.aaload, 1) := by decide +kernel
theorem dX7_trace_149 : decode cX7_trace 149 = .ok (.iload_n 2, 1) := by decide +kernel
theorem dX7_trace_150 : decode cX7_trace 150 = .ok (.iaload, 1) := by decide +kernel
theorem dX7_trace_151 : decode cX7_trace 151 = .ok (.aload_n 0, 1) := by decide +kernel
theorem dX7_trace_152 : decode cX7_trace 152 = .ok (.getfield 37, 3) := by decide +kernel
theorem dX7_trace_155 : decode cX7_trace 155 = .ok (.getfield 82, 3) := by decide +kernel
theorem dX7_trace_158 : decode cX7_trace 158 = .ok (.iconst 1, 1) := by decide +kernel
theorem dX7_trace_159 : decode cX7_trace 159 = .ok (.iaload, 1) := by decide +kernel
theorem dX7_trace_160 : decode cX7_trace 160 = .ok (.iadd, 1) := by decide +kernel
theorem dX7_trace_161 : decode cX7_trace 161 = .ok (.if_icmp .ne 15, 3) := by decide +kernel
theorem dX7_trace_164 : decode cX7_trace 164 = .ok (.iinc 1 (-1), 3) := by decide +kernel
theorem dX7_trace_167 : decode cX7_trace 167 = .ok (.aload_n 0, 1) := by decide +kernel
theorem dX7_trace_168 : decode cX7_trace 168 = .ok (.iconst 1, 1) := by decide +kernel
theorem dX7_trace_169 : decode cX7_trace 169 = .ok (.iload_n 1, 1) := by decide +kernel
theorem dX7_trace_170 : decode cX7_trace 170 = .ok (.invokevirtual 71, 3) := by decide +kernel
theorem dX7_trace_173 : decode cX7_trace 173 = .ok (.goto 16, 3) := by decide +kernel
theorem dX7_trace_176 : decode cX7_trace 176 = .ok (.iload_n 2, 1) := by decide +kernel
theorem dX7_trace_177 : decode cX7_trace 177 = .ok (.ifCond .le 12, 3) := by decide +kernel
theorem dX7_trace_180 : decode cX7_trace 180 = .ok (.iinc 2 (-1), 3) := by decide +kernel
theorem dX7_trace_183 : decode cX7_trace 183 = .ok (.aload_n 0, 1) := by decide +kernel
theorem dX7_trace_184 : decode cX7_trace 184 = .ok (.iconst 0, 1) := by decide +kernel
theorem dX7_trace_185 : decode cX7_trace 185 = .ok (.iload_n 1, 1) := by decide +kernel
theorem dX7_trace_186 : decode cX7_trace 186 = .ok (.invokevirtual 71, 3) := by decide +kernel
theorem dX7_trace_189 : decode cX7_trace 189 = .ok (.iinc 3 1, 3) := by decide +kernel
theorem dX7_trace_192 : decode cX7_trace 192 = .ok (.goto (-169), 3) := by decide +kernel
theorem dX7_trace_195 : decode cX7_trace 195 = .ok (.return_, 1) := by decide +kernel
theorem dX7_kindOfEdit_0 : decode cX7_kindOfEdit 0 = .ok (.aload_n 0, 1) := by decide +kernel
theorem dX7_kindOfEdit_1 : decode cX7_kindOfEdit 1 = .ok (.getfield 26, 3) := by decide +kernel
theorem dX7_kindOfEdit_4 : decode cX7_kindOfEdit 4 = .ok (.aload_n 0, 1) := by decide +kernel
theorem dX7_kindOfEdit_5 : decode cX7_kindOfEdit 5 = .ok (.getfield 33, 3) := by decide +kernel
theorem dX7_kindOfEdit_8 : decode cX7_kindOfEdit 8 = .ok (.iconst 1, 1) := by decide +kernel
theorem dX7_kindOfEdit_9 : decode cX7_kindOfEdit 9 = .ok (.isub, 1) := by decide +kernel
theorem dX7_kindOfEdit_10 : decode cX7_kindOfEdit 10 = .ok (.iload_n 1, 1) := by decide +kernel
theorem dX7_kindOfEdit_11 : decode cX7_kindOfEdit 11 = .ok (.isub, 1) := by decide +kernel
theorem dX7_kindOfEdit_12 : decode cX7_kindOfEdit 12 = .ok (.iaload, 1) := by decide +kernel
theorem dX7_kindOfEdit_13 : decode cX7_kindOfEdit 13 = .ok (.ireturn, 1) := by decide +kernel
theorem dX7_placeOfEdit_0 : decode cX7_placeOfEdit 0 = .ok (.aload_n 0, 1) := by decide +kernel
theorem dX7_placeOfEdit_1 : decode cX7_placeOfEdit 1 = .ok (.getfield 30, 3) := by decide +kernel
theorem dX7_placeOfEdit_4 : decode cX7_placeOfEdit 4 = .ok (.aload_n 0, 1) := by decide +kernel
theorem dX7_placeOfEdit_5 : decode cX7_placeOfEdit 5 = .ok (.getfield 33, 3) := by decide +kernel
theorem dX7_placeOfEdit_8 : decode cX7_placeOfEdit 8 = .ok (.iconst 1, 1) := by decide +kernel
theorem dX7_placeOfEdit_9 : decode cX7_placeOfEdit 9 = .ok (.isub, 1) := by decide +kernel
theorem dX7_placeOfEdit_10 : decode cX7_placeOfEdit 10 = .ok (.iload_n 1, 1) := by decide +kernel
theorem dX7_placeOfEdit_11 : decode cX7_placeOfEdit 11 = .ok (.isub, 1) := by decide +kernel
theorem dX7_placeOfEdit_12 : decode cX7_placeOfEdit 12 = .ok (.iaload, 1) := by decide +kernel
theorem dX7_placeOfEdit_13 : decode cX7_placeOfEdit 13 = .ok (.ireturn, 1) := by decide +kernel
theorem dX7_note_0 : decode cX7_note 0 = .ok (.aload_n 0, 1) := by decide +kernel
theorem dX7_note_1 : decode cX7_note 1 = .ok (.getfield 26, 3) := by decide +kernel
theorem dX7_note_4 : decode cX7_note 4 = .ok (.aload_n 0, 1) := by decide +kernel
theorem dX7_note_5 : decode cX7_note 5 = .ok (.getfield 33, 3) := by decide +kernel
theorem dX7_note_8 : decode cX7_note 8 = .ok (.iload_n 1, 1) := by decide +kernel
theorem dX7_note_9 : decode cX7_note 9 = .ok (.iastore, 1) := by decide +kernel
theorem dX7_note_10 : decode cX7_note 10 = .ok (.aload_n 0, 1) := by decide +kernel
theorem dX7_note_11 : decode cX7_note 11 = .ok (.getfield 30, 3) := by decide +kernel
theorem dX7_note_14 : decode cX7_note 14 = .ok (.aload_n 0, 1) := by decide +kernel
theorem dX7_note_15 : decode cX7_note 15 = .ok (.getfield 33, 3) := by decide +kernel
theorem dX7_note_18 : decode cX7_note 18 = .ok (.iload_n 2, 1) := by decide +kernel
theorem dX7_note_19 : decode cX7_note 19 = .ok (.iastore, 1) := by decide +kernel
theorem dX7_note_20 : decode cX7_note 20 = .ok (.aload_n 0, 1) := by decide +kernel
theorem dX7_note_21 : decode cX7_note 21 = .ok (.dup, 1) := by decide +kernel
theorem dX7_note_22 : decode cX7_note 22 = .ok (.getfield 33, 3) := by decide +kernel
theorem dX7_note_25 : decode cX7_note 25 = .ok (.iconst 1, 1) := by decide +kernel
theorem dX7_note_26 : decode cX7_note 26 = .ok (.iadd, 1) := by decide +kernel
theorem dX7_note_27 : decode cX7_note 27 = .ok (.putfield 33, 3) := by decide +kernel
theorem dX7_note_30 : decode cX7_note 30 = .ok (.return_, 1) := by decide +kernel
theorem dX7_fill_0 : decode cX7_fill 0 = .ok (.aload_n 0, 1) := by decide +kernel
theorem dX7_fill_1 : decode cX7_fill 1 = .ok (.getfield 23, 3) := by decide +kernel
theorem dX7_fill_4 : decode cX7_fill 4 = .ok (.iconst 0, 1) := by decide +kernel
theorem dX7_fill_5 : decode cX7_fill 5 = .ok (.aaload, 1) := by decide +kernel
theorem dX7_fill_6 : decode cX7_fill 6 = .ok (.iconst 0, 1) := by decide +kernel
theorem dX7_fill_7 : decode cX7_fill 7 = .ok (.iconst 0, 1) := by decide +kernel
theorem dX7_fill_8 : decode cX7_fill 8 = .ok (.iastore, 1) := by decide +kernel
theorem dX7_fill_9 : decode cX7_fill 9 = .ok (.iconst 1, 1) := by decide +kernel
theorem dX7_fill_10 : decode cX7_fill 10 = .ok (.istore_n 1, 1) := by decide +kernel
theorem dX7_fill_11 : decode cX7_fill 11 = .ok (.iload_n 1, 1) := by decide +kernel
theorem dX7_fill_12 : decode cX7_fill 12 = .ok (.aload_n 0, 1) := by decide +kernel
theorem dX7_fill_13 : decode cX7_fill 13 = .ok (.getfield 18, 3) := by decide +kernel
theorem dX7_fill_16 : decode cX7_fill 16 = .ok (.getfield 48, 3) := by decide +kernel
theorem dX7_fill_19 : decode cX7_fill 19 = .ok (.if_icmp .gt 37, 3) := by decide +kernel
theorem dX7_fill_22 : decode cX7_fill 22 = .ok (.aload_n 0, 1) := by decide +kernel
theorem dX7_fill_23 : decode cX7_fill 23 = .ok (.getfield 23, 3) := by decide +kernel
theorem dX7_fill_26 : decode cX7_fill 26 = .ok (.iconst 0, 1) := by decide +kernel
theorem dX7_fill_27 : decode cX7_fill 27 = .ok (.aaload, 1) := by decide +kernel
theorem dX7_fill_28 : decode cX7_fill 28 = .ok (.iload_n 1, 1) := by decide +kernel
theorem dX7_fill_29 : decode cX7_fill 29 = .ok (.aload_n 0, 1) := by decide +kernel
theorem dX7_fill_30 : decode cX7_fill 30 = .ok (.getfield 23, 3) := by decide +kernel
theorem dX7_fill_33 : decode cX7_fill 33 = .ok (.iconst 0, 1) := by decide +kernel
theorem dX7_fill_34 : decode cX7_fill 34 = .ok (.aaload, 1) := by decide +kernel
theorem dX7_fill_35 : decode cX7_fill 35 = .ok (.iload_n 1, 1) := by decide +kernel
theorem dX7_fill_36 : decode cX7_fill 36 = .ok (.iconst 1, 1) := by decide +kernel
theorem dX7_fill_37 : decode cX7_fill 37 = .ok (.isub, 1) := by decide +kernel
theorem dX7_fill_38 : decode cX7_fill 38 = .ok (.iaload, 1) := by decide +kernel
theorem dX7_fill_39 : decode cX7_fill 39 = .ok (.aload_n 0, 1) := by decide +kernel
theorem dX7_fill_40 : decode cX7_fill 40 = .ok (.getfield 37, 3) := by decide +kernel
theorem dX7_fill_43 : decode cX7_fill 43 = .ok (.getfield 82, 3) := by decide +kernel
theorem dX7_fill_46 : decode cX7_fill 46 = .ok (.iconst 0, 1) := by decide +kernel
theorem dX7_fill_47 : decode cX7_fill 47 = .ok (.iaload, 1) := by decide +kernel
theorem dX7_fill_48 : decode cX7_fill 48 = .ok (.iadd, 1) := by decide +kernel
theorem dX7_fill_49 : decode cX7_fill 49 = .ok (.iastore, 1) := by decide +kernel
theorem dX7_fill_50 : decode cX7_fill 50 = .ok (.iinc 1 1, 3) := by decide +kernel
theorem dX7_fill_53 : decode cX7_fill 53 = .ok (.goto (-42), 3) := by decide +kernel
theorem dX7_fill_56 : decode cX7_fill 56 = .ok (.iconst 1, 1) := by decide +kernel
theorem dX7_fill_57 : decode cX7_fill 57 = .ok (.istore_n 1, 1) := by decide +kernel
theorem dX7_fill_58 : decode cX7_fill 58 = .ok (.iload_n 1, 1) := by decide +kernel
theorem dX7_fill_59 : decode cX7_fill 59 = .ok (.aload_n 0, 1) := by decide +kernel
theorem dX7_fill_60 : decode cX7_fill 60 = .ok (.getfield 12, 3) := by decide +kernel
theorem dX7_fill_63 : decode cX7_fill 63 = .ok (.getfield 48, 3) := by decide +kernel
theorem dX7_fill_66 : decode cX7_fill 66 = .ok (.if_icmp .gt 70, 3) := by decide +kernel
theorem dX7_fill_69 : decode cX7_fill 69 = .ok (.aload_n 0, 1) := by decide +kernel
theorem dX7_fill_70 : decode cX7_fill 70 = .ok (.getfield 23, 3) := by decide +kernel
theorem dX7_fill_73 : decode cX7_fill 73 = .ok (.iload_n 1, 1) := by decide +kernel
theorem dX7_fill_74 : decode cX7_fill 74 = .ok (.aaload, 1) := by decide +kernel
theorem dX7_fill_75 : decode cX7_fill 75 = .ok (.iconst 0, 1) := by decide +kernel
theorem dX7_fill_76 : decode cX7_fill 76 = .ok (.aload_n 0, 1) := by decide +kernel
theorem dX7_fill_77 : decode cX7_fill 77 = .ok (.getfield 23, 3) := by decide +kernel
theorem dX7_fill_80 : decode cX7_fill 80 = .ok (.iload_n 1, 1) := by decide +kernel
theorem dX7_fill_81 : decode cX7_fill 81 = .ok (.iconst 1, 1) := by decide +kernel
theorem dX7_fill_82 : decode cX7_fill 82 = .ok (.isub, 1) := by decide +kernel
theorem dX7_fill_83 : decode cX7_fill 83 = .ok (.aaload, 1) := by decide +kernel
theorem dX7_fill_84 : decode cX7_fill 84 = .ok (.iconst 0, 1) := by decide +kernel
theorem dX7_fill_85 : decode cX7_fill 85 = .ok (.iaload, 1) := by decide +kernel
theorem dX7_fill_86 : decode cX7_fill 86 = .ok (.aload_n 0, 1) := by decide +kernel
theorem dX7_fill_87 : decode cX7_fill 87 = .ok (.getfield 37, 3) := by decide +kernel
theorem dX7_fill_90 : decode cX7_fill 90 = .ok (.getfield 82, 3) := by decide +kernel
theorem dX7_fill_93 : decode cX7_fill 93 = .ok (.iconst 1, 1) := by decide +kernel
theorem dX7_fill_94 : decode cX7_fill 94 = .ok (.iaload, 1) := by decide +kernel
theorem dX7_fill_95 : decode cX7_fill 95 = .ok (.iadd, 1) := by decide +kernel
theorem dX7_fill_96 : decode cX7_fill 96 = .ok (.iastore, 1) := by decide +kernel
theorem dX7_fill_97 : decode cX7_fill 97 = .ok (.iconst 1, 1) := by decide +kernel
theorem dX7_fill_98 : decode cX7_fill 98 = .ok (.istore_n 2, 1) := by decide +kernel
theorem dX7_fill_99 : decode cX7_fill 99 = .ok (.iload_n 2, 1) := by decide +kernel
theorem dX7_fill_100 : decode cX7_fill 100 = .ok (.aload_n 0, 1) := by decide +kernel
theorem dX7_fill_101 : decode cX7_fill 101 = .ok (.getfield 18, 3) := by decide +kernel
theorem dX7_fill_104 : decode cX7_fill 104 = .ok (.getfield 48, 3) := by decide +kernel
theorem dX7_fill_107 : decode cX7_fill 107 = .ok (.if_icmp .gt 23, 3) := by decide +kernel
theorem dX7_fill_110 : decode cX7_fill 110 = .ok (.aload_n 0, 1) := by decide +kernel
theorem dX7_fill_111 : decode cX7_fill 111 = .ok (.getfield 23, 3) := by decide +kernel
theorem dX7_fill_114 : decode cX7_fill 114 = .ok (.iload_n 1, 1) := by decide +kernel
theorem dX7_fill_115 : decode cX7_fill 115 = .ok (.aaload, 1) := by decide +kernel
theorem dX7_fill_116 : decode cX7_fill 116 = .ok (.iload_n 2, 1) := by decide +kernel
theorem dX7_fill_117 : decode cX7_fill 117 = .ok (.aload_n 0, 1) := by decide +kernel
theorem dX7_fill_118 : decode cX7_fill 118 = .ok (.iload_n 1, 1) := by decide +kernel
theorem dX7_fill_119 : decode cX7_fill 119 = .ok (.iload_n 2, 1) := by decide +kernel
theorem dX7_fill_120 : decode cX7_fill 120 = .ok (.invokevirtual 87, 3) := by decide +kernel
theorem dX7_fill_123 : decode cX7_fill 123 = .ok (.iastore, 1) := by decide +kernel
theorem dX7_fill_124 : decode cX7_fill 124 = .ok (.iinc 2 1, 3) := by decide +kernel
theorem dX7_fill_127 : decode cX7_fill 127 = .ok (.goto (-28), 3) := by decide +kernel
theorem dX7_fill_130 : decode cX7_fill 130 = .ok (.iinc 1 1, 3) := by decide +kernel
theorem dX7_fill_133 : decode cX7_fill 133 = .ok (.goto (-75), 3) := by decide +kernel
theorem dX7_fill_136 : decode cX7_fill 136 = .ok (.return_, 1) := by decide +kernel
theorem dX7_cheapest_0 : decode cX7_cheapest 0 = .ok (.aload_n 0, 1) := by decide +kernel
theorem dX7_cheapest_1 : decode cX7_cheapest 1 = .ok (.iload_n 1, 1) := by decide +kernel
theorem dX7_cheapest_2 : decode cX7_cheapest 2 = .ok (.iload_n 2, 1) := by decide +kernel
theorem dX7_cheapest_3 : decode cX7_cheapest 3 = .ok (.invokevirtual 65, 3) := by decide +kernel
theorem dX7_cheapest_6 : decode cX7_cheapest 6 = .ok (.istore_n 3, 1) := by decide +kernel
theorem dX7_cheapest_7 : decode cX7_cheapest 7 = .ok (.iload_n 3, 1) := by decide +kernel
theorem dX7_cheapest_8 : decode cX7_cheapest 8 = .ok (.aload_n 0, 1) := by decide +kernel
theorem dX7_cheapest_9 : decode cX7_cheapest 9 = .ok (.getfield 23, 3) := by decide +kernel
theorem dX7_cheapest_12 : decode cX7_cheapest 12 = .ok (.iload_n 1, 1) := by decide +kernel
theorem dX7_cheapest_13 : decode cX7_cheapest 13 = .ok (.iconst 1, 1) := by decide +kernel
theorem dX7_cheapest_14 : decode cX7_cheapest 14 = .ok (.isub, 1) := by decide +kernel
theorem dX7_cheapest_15 : decode cX7_cheapest 15 = .ok (.aaload, 1) := by decide +kernel
theorem dX7_cheapest_16 : decode cX7_cheapest 16 = .ok (.iload_n 2, 1) := by decide +kernel
theorem dX7_cheapest_17 : decode cX7_cheapest 17 = .ok (.iaload, 1) := by decide +kernel
theorem dX7_cheapest_18 : decode cX7_cheapest 18 = .ok (.aload_n 0, 1) := by decide +kernel
theorem dX7_cheapest_19 : decode cX7_cheapest 19 = .ok (.getfield 37, 3) := by decide +kernel
theorem dX7_cheapest_22 : decode cX7_cheapest 22 = .ok (.getfield 82, 3) := by decide +kernel
theorem dX7_cheapest_25 : decode cX7_cheapest 25 = .ok (.iconst 1, 1) := by decide +kernel
theorem dX7_cheapest_26 : decode cX7_cheapest 26 = .ok (.iaload, 1) := by decide +kernel
theorem dX7_cheapest_27 : decode cX7_cheapest 27 = .ok (.iadd, 1) := by decide +kernel
theorem dX7_cheapest_28 : decode cX7_cheapest 28 = .ok (.invokestatic 59, 3) := by decide +kernel
theorem dX7_cheapest_31 : decode cX7_cheapest 31 = .ok (.istore_n 3, 1) := by decide +kernel
theorem dX7_cheapest_32 : decode cX7_cheapest 32 = .ok (.iload_n 3, 1) := by decide +kernel
theorem dX7_cheapest_33 : decode cX7_cheapest 33 = .ok (.aload_n 0, 1) := by decide +kernel
theorem dX7_cheapest_34 : decode cX7_cheapest 34 = .ok (.getfield 23, 3) := by decide +kernel
theorem dX7_cheapest_37 : decode cX7_cheapest 37 = .ok (.iload_n 1, 1) := by decide +kernel
theorem dX7_cheapest_38 : decode cX7_cheapest 38 = .ok (.aaload, 1) := by decide +kernel
theorem dX7_cheapest_39 : decode cX7_cheapest 39 = .ok (.iload_n 2, 1) := by decide +kernel
theorem dX7_cheapest_40 : decode cX7_cheapest 40 = .ok (.iconst 1, 1) := by decide +kernel
theorem dX7_cheapest_41 : decode cX7_cheapest 41 = .ok (.isub, 1) := by decide +kernel
theorem dX7_cheapest_42 : decode cX7_cheapest 42 = .ok (.iaload, 1) := by decide +kernel
theorem dX7_cheapest_43 : decode cX7_cheapest 43 = .ok (.aload_n 0, 1) := by decide +kernel
theorem dX7_cheapest_44 : decode cX7_cheapest 44 = .ok (.getfield 37, 3) := by decide +kernel
theorem dX7_cheapest_47 : decode cX7_cheapest 47 = .ok (.getfield 82, 3) := by decide +kernel
theorem dX7_cheapest_50 : decode cX7_cheapest 50 = .ok (.iconst 0, 1) := by decide +kernel
theorem dX7_cheapest_51 : decode cX7_cheapest 51 = .ok (.iaload, 1) := by decide +kernel
theorem dX7_cheapest_52 : decode cX7_cheapest 52 = .ok (.iadd, 1) := by decide +kernel
theorem dX7_cheapest_53 : decode cX7_cheapest 53 = .ok (.invokestatic 59, 3) := by decide +kernel
theorem dX7_cheapest_56 : decode cX7_cheapest 56 = .ok (.istore_n 3, 1) := by decide +kernel
theorem dX7_cheapest_57 : decode cX7_cheapest 57 = .ok (.aload_n 0, 1) := by decide +kernel
theorem dX7_cheapest_58 : decode cX7_cheapest 58 = .ok (.iload_n 1, 1) := by decide +kernel
theorem dX7_cheapest_59 : decode cX7_cheapest 59 = .ok (.iload_n 2, 1) := by decide +kernel
theorem dX7_cheapest_60 : decode cX7_cheapest 60 = .ok (.invokevirtual 75, 3) := by decide +kernel
theorem dX7_cheapest_63 : decode cX7_cheapest 63 = .ok (.ifCond .eq 16, 3) := by decide +kernel
theorem dX7_cheapest_66 : decode cX7_cheapest 66 = .ok (.iload_n 3, 1) := by decide +kernel
theorem dX7_cheapest_67 : decode cX7_cheapest 67 = .ok (.aload_n 0, 1) := by decide +kernel
theorem dX7_cheapest_68 : decode cX7_cheapest 68 = .ok (.iload_n 1, 1) := by decide +kernel
theorem dX7_cheapest_69 : decode cX7_cheapest 69 = .ok (.iload_n 2, 1) := by decide +kernel
theorem dX7_cheapest_70 : decode cX7_cheapest 70 = .ok (.invokevirtual 79, 3) := by decide +kernel
theorem dX7_cheapest_73 : decode cX7_cheapest 73 = .ok (.invokestatic 59, 3) := by decide +kernel
theorem dX7_cheapest_76 : decode cX7_cheapest 76 = .ok (.goto 4, 3) := by decide +kernel
theorem dX7_cheapest_79 : decode cX7_cheapest 79 = .ok (.iload_n 3, 1) := by decide +kernel
theorem dX7_cheapest_80 : decode cX7_cheapest 80 = .ok (.ireturn, 1) := by decide +kernel
theorem dX7_byLast_0 : decode cX7_byLast 0 = .ok (.aload_n 0, 1) := by decide +kernel
theorem dX7_byLast_1 : decode cX7_byLast 1 = .ok (.getfield 23, 3) := by decide +kernel
theorem dX7_byLast_4 : decode cX7_byLast 4 = .ok (.iload_n 1, 1) := by decide +kernel
theorem dX7_byLast_5 : decode cX7_byLast 5 = .ok (.iconst 1, 1) := by decide +kernel
theorem dX7_byLast_6 : decode cX7_byLast 6 = .ok (.isub, 1) := by decide +kernel
theorem dX7_byLast_7 : decode cX7_byLast 7 = .ok (.aaload, 1) := by decide +kernel
theorem dX7_byLast_8 : decode cX7_byLast 8 = .ok (.iload_n 2, 1) := by decide +kernel
theorem dX7_byLast_9 : decode cX7_byLast 9 = .ok (.iconst 1, 1) := by decide +kernel
theorem dX7_byLast_10 : decode cX7_byLast 10 = .ok (.isub, 1) := by decide +kernel
theorem dX7_byLast_11 : decode cX7_byLast 11 = .ok (.iaload, 1) := by decide +kernel
theorem dX7_byLast_12 : decode cX7_byLast 12 = .ok (.aload_n 0, 1) := by decide +kernel
theorem dX7_byLast_13 : decode cX7_byLast 13 = .ok (.getfield 37, 3) := by decide +kernel
theorem dX7_byLast_16 : decode cX7_byLast 16 = .ok (.aload_n 0, 1) := by decide +kernel
theorem dX7_byLast_17 : decode cX7_byLast 17 = .ok (.getfield 12, 3) := by decide +kernel
theorem dX7_byLast_20 : decode cX7_byLast 20 = .ok (.getfield 68, 3) := by decide +kernel
theorem dX7_byLast_23 : decode cX7_byLast 23 = .ok (.iload_n 1, 1) := by decide +kernel
theorem dX7_byLast_24 : decode cX7_byLast 24 = .ok (.iconst 1, 1) := by decide +kernel
theorem dX7_byLast_25 : decode cX7_byLast 25 = .ok (.isub, 1) := by decide +kernel
theorem dX7_byLast_26 : decode cX7_byLast 26 = .ok (.iaload, 1) := by decide +kernel
theorem dX7_byLast_27 : decode cX7_byLast 27 = .ok (.aload_n 0, 1) := by decide +kernel
theorem dX7_byLast_28 : decode cX7_byLast 28 = .ok (.getfield 18, 3) := by decide +kernel
theorem dX7_byLast_31 : decode cX7_byLast 31 = .ok (.getfield 68, 3) := by decide +kernel
theorem dX7_byLast_34 : decode cX7_byLast 34 = .ok (.iload_n 2, 1) := by decide +kernel
theorem dX7_byLast_35 : decode cX7_byLast 35 = .ok (.iconst 1, 1) := by decide +kernel
theorem dX7_byLast_36 : decode cX7_byLast 36 = .ok (.isub, 1) := by decide +kernel
theorem dX7_byLast_37 : decode cX7_byLast 37 = .ok (.iaload, 1) := by decide +kernel
theorem dX7_byLast_38 : decode cX7_byLast 38 = .ok (.invokevirtual 90, 3) := by decide +kernel
theorem dX7_byLast_41 : decode cX7_byLast 41 = .ok (.iadd, 1) := by decide +kernel
theorem dX7_byLast_42 : decode cX7_byLast 42 = .ok (.ireturn, 1) := by decide +kernel
theorem dX7_mayChange_0 : decode cX7_mayChange 0 = .ok (.iload_n 1, 1) := by decide +kernel
theorem dX7_mayChange_1 : decode cX7_mayChange 1 = .ok (.iconst 1, 1) := by decide +kernel
theorem dX7_mayChange_2 : decode cX7_mayChange 2 = .ok (.if_icmp .le 62, 3) := by decide +kernel
theorem dX7_mayChange_5 : decode cX7_mayChange 5 = .ok (.iload_n 2, 1) := by decide +kernel
theorem dX7_mayChange_6 : decode cX7_mayChange 6 = .ok (.iconst 1, 1) := by decide +kernel
theorem dX7_mayChange_7 : decode cX7_mayChange 7 = .ok (.if_icmp .le 57, 3) := by decide +kernel
theorem dX7_mayChange_10 : decode cX7_mayChange 10 = .ok (.aload_n 0, 1) := by decide +kernel
theorem dX7_mayChange_11 : decode cX7_mayChange 11 = .ok (.getfield 12, 3) := by decide +kernel
theorem dX7_mayChange_14 : decode cX7_mayChange 14 = .ok (.getfield 68, 3) := by decide +kernel
theorem dX7_mayChange_17 : decode cX7_mayChange 17 = .ok (.iload_n 1, 1) := by decide +kernel
theorem dX7_mayChange_18 : decode cX7_mayChange 18 = .ok (.iconst 2, 1) := by decide +kernel
theorem dX7_mayChange_19 : decode cX7_mayChange 19 = .ok (.isub, 1) := by decide +kernel
theorem dX7_mayChange_20 : decode cX7_mayChange 20 = .ok (.iaload, 1) := by decide +kernel
theorem dX7_mayChange_21 : decode cX7_mayChange 21 = .ok (.aload_n 0, 1) := by decide +kernel
theorem dX7_mayChange_22 : decode cX7_mayChange 22 = .ok (.getfield 18, 3) := by decide +kernel
theorem dX7_mayChange_25 : decode cX7_mayChange 25 = .ok (.getfield 68, 3) := by decide +kernel
theorem dX7_mayChange_28 : decode cX7_mayChange 28 = .ok (.iload_n 2, 1) := by decide +kernel
theorem dX7_mayChange_29 : decode cX7_mayChange 29 = .ok (.iconst 1, 1) := by decide +kernel
theorem dX7_mayChange_30 : decode cX7_mayChange 30 = .ok (.isub, 1) := by decide +kernel
theorem dX7_mayChange_31 : decode cX7_mayChange 31 = .ok (.iaload, 1) := by decide +kernel
theorem dX7_mayChange_32 : decode cX7_mayChange 32 = .ok (.if_icmp .ne 32, 3) := by decide +kernel
theorem dX7_mayChange_35 : decode cX7_mayChange 35 = .ok (.aload_n 0, 1) := by decide +kernel
theorem dX7_mayChange_36 : decode cX7_mayChange 36 = .ok (.getfield 12, 3) := by decide +kernel
theorem dX7_mayChange_39 : decode cX7_mayChange 39 = .ok (.getfield 68, 3) := by decide +kernel
theorem dX7_mayChange_42 : decode cX7_mayChange 42 = .ok (.iload_n 1, 1) := by decide +kernel
theorem dX7_mayChange_43 : decode cX7_mayChange 43 = .ok (.iconst 1, 1) := by decide +kernel
theorem dX7_mayChange_44 : decode cX7_mayChange 44 = .ok (.isub, 1) := by decide +kernel
theorem dX7_mayChange_45 : decode cX7_mayChange 45 = .ok (.iaload, 1) := by decide +kernel
theorem dX7_mayChange_46 : decode cX7_mayChange 46 = .ok (.aload_n 0, 1) := by decide +kernel
theorem dX7_mayChange_47 : decode cX7_mayChange 47 = .ok (.getfield 18, 3) := by decide +kernel
theorem dX7_mayChange_50 : decode cX7_mayChange 50 = .ok (.getfield 68, 3) := by decide +kernel
theorem dX7_mayChange_53 : decode cX7_mayChange 53 = .ok (.iload_n 2, 1) := by decide +kernel
theorem dX7_mayChange_54 : decode cX7_mayChange 54 = .ok (.iconst 2, 1) := by decide +kernel
theorem dX7_mayChange_55 : decode cX7_mayChange 55 = .ok (.isub, 1) := by decide +kernel
theorem dX7_mayChange_56 : decode cX7_mayChange 56 = .ok (.iaload, 1) := by decide +kernel
theorem dX7_mayChange_57 : decode cX7_mayChange 57 = .ok (.if_icmp .ne 7, 3) := by decide +kernel
theorem dX7_mayChange_60 : decode cX7_mayChange 60 = .ok (.iconst 1, 1) := by decide +kernel
theorem dX7_mayChange_61 : decode cX7_mayChange 61 = .ok (.goto 4, 3) := by decide +kernel
theorem dX7_mayChange_64 : decode cX7_mayChange 64 = .ok (.iconst 0, 1) := by decide +kernel
theorem dX7_mayChange_65 : decode cX7_mayChange 65 = .ok (.ireturn, 1) := by decide +kernel
theorem dX7_byChange_0 : decode cX7_byChange 0 = .ok (.aload_n 0, 1) := by decide +kernel
theorem dX7_byChange_1 : decode cX7_byChange 1 = .ok (.getfield 23, 3) := by decide +kernel
theorem dX7_byChange_4 : decode cX7_byChange 4 = .ok (.iload_n 1, 1) := by decide +kernel
theorem dX7_byChange_5 : decode cX7_byChange 5 = .ok (.iconst 2, 1) := by decide +kernel
theorem dX7_byChange_6 : decode cX7_byChange 6 = .ok (.isub, 1) := by decide +kernel
theorem dX7_byChange_7 : decode cX7_byChange 7 = .ok (.aaload, 1) := by decide +kernel
theorem dX7_byChange_8 : decode cX7_byChange 8 = .ok (.iload_n 2, 1) := by decide +kernel
theorem dX7_byChange_9 : decode cX7_byChange 9 = .ok (.iconst 2, 1) := by decide +kernel
theorem dX7_byChange_10 : decode cX7_byChange 10 = .ok (.isub, 1) := by decide +kernel
theorem dX7_byChange_11 : decode cX7_byChange 11 = .ok (.iaload, 1) := by decide +kernel
theorem dX7_byChange_12 : decode cX7_byChange 12 = .ok (.aload_n 0, 1) := by decide +kernel
theorem dX7_byChange_13 : decode cX7_byChange 13 = .ok (.getfield 37, 3) := by decide +kernel
theorem dX7_byChange_16 : decode cX7_byChange 16 = .ok (.getfield 82, 3) := by decide +kernel
theorem dX7_byChange_19 : decode cX7_byChange 19 = .ok (.iconst 3, 1) := by decide +kernel
theorem dX7_byChange_20 : decode cX7_byChange 20 = .ok (.iaload, 1) := by decide +kernel
theorem dX7_byChange_21 : decode cX7_byChange 21 = .ok (.iadd, 1) := by decide +kernel
theorem dX7_byChange_22 : decode cX7_byChange 22 = .ok (.ireturn, 1) := by decide +kernel
theorem dX8_init_0 : decode cX8_init 0 = .ok (.aload_n 0, 1) := by decide +kernel
theorem dX8_init_1 : decode cX8_init 1 = .ok (.invokespecial 3, 3) := by decide +kernel
theorem dX8_init_4 : decode cX8_init 4 = .ok (.aload_n 0, 1) := by decide +kernel
theorem dX8_init_5 : decode cX8_init 5 = .ok (.bipush 60, 2) := by decide +kernel
theorem dX8_init_7 : decode cX8_init 7 = .ok (.anewarray 9, 3) := by decide +kernel
theorem dX8_init_10 : decode cX8_init 10 = .ok (.putfield 11, 3) := by decide +kernel
theorem dX8_init_13 : decode cX8_init 13 = .ok (.aload_n 0, 1) := by decide +kernel
theorem dX8_init_14 : decode cX8_init 14 = .ok (.bipush 60, 2) := by decide +kernel
theorem dX8_init_16 : decode cX8_init 16 = .ok (.newarray .int, 2) := by decide +kernel
theorem dX8_init_18 : decode cX8_init 18 = .ok (.putfield 17, 3) := by decide +kernel
theorem dX8_init_21 : decode cX8_init 21 = .ok (.aload_n 0, 1) := by decide +kernel
theorem dX8_init_22 : decode cX8_init 22 = .ok (.bipush 60, 2) := by decide +kernel
theorem dX8_init_24 : decode cX8_init 24 = .ok (.newarray .int, 2) := by decide +kernel
theorem dX8_init_26 : decode cX8_init 26 = .ok (.putfield 21, 3) := by decide +kernel
theorem dX8_init_29 : decode cX8_init 29 = .ok (.aload_n 0, 1) := by decide +kernel
theorem dX8_init_30 : decode cX8_init 30 = .ok (.sipush 3600, 3) := by decide +kernel
theorem dX8_init_33 : decode cX8_init 33 = .ok (.newarray .boolean, 2) := by decide +kernel
theorem dX8_init_35 : decode cX8_init 35 = .ok (.putfield 24, 3) := by decide +kernel
theorem dX8_init_38 : decode cX8_init 38 = .ok (.aload_n 0, 1) := by decide +kernel
theorem dX8_init_39 : decode cX8_init 39 = .ok (.iconst 0, 1) := by decide +kernel
theorem dX8_init_40 : decode cX8_init 40 = .ok (.putfield 28, 3) := by decide +kernel
theorem dX8_init_43 : decode cX8_init 43 = .ok (.iconst 0, 1) := by decide +kernel
theorem dX8_init_44 : decode cX8_init 44 = .ok (.istore_n 1, 1) := by decide +kernel
theorem dX8_init_45 : decode cX8_init 45 = .ok (.iload_n 1, 1) := by decide +kernel
theorem dX8_init_46 : decode cX8_init 46 = .ok (.bipush 60, 2) := by decide +kernel
theorem dX8_init_48 : decode cX8_init 48 = .ok (.if_icmp .ge 22, 3) := by decide +kernel
theorem dX8_init_51 : decode cX8_init 51 = .ok (.aload_n 0, 1) := by decide +kernel
theorem dX8_init_52 : decode cX8_init 52 = .ok (.getfield 11, 3) := by decide +kernel
theorem dX8_init_55 : decode cX8_init 55 = .ok (.iload_n 1, 1) := by decide +kernel
theorem dX8_init_56 : decode cX8_init 56 = .ok (.new 9, 3) := by decide +kernel
theorem dX8_init_59 : decode cX8_init 59 = .ok (.dup, 1) := by decide +kernel
theorem dX8_init_60 : decode cX8_init 60 = .ok (.invokespecial 32, 3) := by decide +kernel
theorem dX8_init_63 : decode cX8_init 63 = .ok (.aastore, 1) := by decide +kernel
theorem dX8_init_64 : decode cX8_init 64 = .ok (.iinc 1 1, 3) := by decide +kernel
theorem dX8_init_67 : decode cX8_init 67 = .ok (.goto (-22), 3) := by decide +kernel
theorem dX8_init_70 : decode cX8_init 70 = .ok (.return_, 1) := by decide +kernel
theorem dX8_has_0 : decode cX8_has 0 = .ok (.iload_n 1, 1) := by decide +kernel
theorem dX8_has_1 : decode cX8_has 1 = .ok (.ifCond .lt 15, 3) := by decide +kernel
theorem dX8_has_4 : decode cX8_has 4 = .ok (.iload_n 1, 1) := by decide +kernel
theorem dX8_has_5 : decode cX8_has 5 = .ok (.aload_n 0, 1) := by decide +kernel
theorem dX8_has_6 : decode cX8_has 6 = .ok (.getfield 28, 3) := by decide +kernel
theorem dX8_has_9 : decode cX8_has 9 = .ok (.if_icmp .ge 7, 3) := by decide +kernel
theorem dX8_has_12 : decode cX8_has 12 = .ok (.iconst 1, 1) := by decide +kernel
theorem dX8_has_13 : decode cX8_has 13 = .ok (.goto 4, 3) := by decide +kernel
theorem dX8_has_16 : decode cX8_has 16 = .ok (.iconst 0, 1) := by decide +kernel
theorem dX8_has_17 : decode cX8_has 17 = .ok (.ireturn, 1) := by decide +kernel
theorem dX8_hasRow_0 : decode cX8_hasRow 0 = .ok (.iconst 0, 1) := by decide +kernel
theorem dX8_hasRow_1 : decode cX8_hasRow 1 = .ok (.istore_n 2, 1) := by decide +kernel
theorem dX8_hasRow_2 : decode cX8_hasRow 2 = .ok (.iload_n 2, 1) := by decide +kernel
theorem dX8_hasRow_3 : decode cX8_hasRow 3 = .ok (.aload_n 0, 1) := by decide +kernel
theorem dX8_hasRow_4 : decode cX8_hasRow 4 = .ok (.getfield 28, 3) := by decide +kernel
theorem dX8_hasRow_7 : decode cX8_hasRow 7 = .ok (.if_icmp .ge 24, 3) := by decide +kernel
theorem dX8_hasRow_10 : decode cX8_hasRow 10 = .ok (.aload_n 0, 1) := by decide +kernel
theorem dX8_hasRow_11 : decode cX8_hasRow 11 = .ok (.getfield 11, 3) := by decide +kernel
theorem dX8_hasRow_14 : decode cX8_hasRow 14 = .ok (.iload_n 2, 1) := by decide +kernel
theorem dX8_hasRow_15 : decode cX8_hasRow 15 = .ok (.aaload, 1) := by decide +kernel
theorem dX8_hasRow_16 : decode cX8_hasRow 16 = .ok (.aload_n 1, 1) := by decide +kernel
theorem dX8_hasRow_17 : decode cX8_hasRow 17 = .ok (.invokevirtual 33, 3) := by decide +kernel
theorem dX8_hasRow_20 : decode cX8_hasRow 20 = .ok (.ifCond .ne 5, 3) := by decide +kernel
theorem dX8_hasRow_23 : decode cX8_hasRow 23 = .ok (.iconst 1, 1) := by decide +kernel
theorem dX8_hasRow_24 : decode cX8_hasRow 24 = .ok (.ireturn, 1) := by decide +kernel
theorem dX8_hasRow_25 : decode cX8_hasRow 25 = .ok (.iinc 2 1, 3) := by decide +kernel
theorem dX8_hasRow_28 : decode cX8_hasRow 28 = .ok (.goto (-26), 3) := by decide +kernel
theorem dX8_hasRow_31 : decode cX8_hasRow 31 = .ok (.iconst 0, 1) := by decide +kernel
theorem dX8_hasRow_32 : decode cX8_hasRow 32 = .ok (.ireturn, 1) := by decide +kernel
theorem dX8_add_0 : decode cX8_add 0 = .ok (.aload_n 0, 1) := by decide +kernel
theorem dX8_add_1 : decode cX8_add 1 = .ok (.getfield 28, 3) := by decide +kernel
theorem dX8_add_4 : decode cX8_add 4 = .ok (.istore_n 3, 1) := by decide +kernel
theorem dX8_add_5 : decode cX8_add 5 = .ok (.aload_n 0, 1) := by decide +kernel
theorem dX8_add_6 : decode cX8_add 6 = .ok (.getfield 11, 3) := by decide +kernel
theorem dX8_add_9 : decode cX8_add 9 = .ok (.iload_n 3, 1) := by decide +kernel
theorem dX8_add_10 : decode cX8_add 10 = .ok (.aaload, 1) := by decide +kernel
theorem dX8_add_11 : decode cX8_add 11 = .ok (.aload_n 1, 1) := by decide +kernel
theorem dX8_add_12 : decode cX8_add 12 = .ok (.invokevirtual 37, 3) := by decide +kernel
theorem dX8_add_15 : decode cX8_add 15 = .ok (.aload_n 0, 1) := by decide +kernel
theorem dX8_add_16 : decode cX8_add 16 = .ok (.getfield 17, 3) := by decide +kernel
theorem dX8_add_19 : decode cX8_add 19 = .ok (.iload_n 3, 1) := by decide +kernel
theorem dX8_add_20 : decode cX8_add 20 = .ok (.iload_n 2, 1) := by decide +kernel
theorem dX8_add_21 : decode cX8_add 21 = .ok (.iastore, 1) := by decide +kernel
theorem dX8_add_22 : decode cX8_add 22 = .ok (.aload_n 0, 1) := by decide +kernel
theorem dX8_add_23 : decode cX8_add 23 = .ok (.getfield 28, 3) := by decide +kernel
theorem dX8_add_26 : decode cX8_add 26 = .ok (.istore 4, 2) := by decide +kernel
theorem dX8_add_28 : decode cX8_add 28 = .ok (.iload 4, 2) := by decide +kernel
theorem dX8_add_30 : decode cX8_add 30 = .ok (.ifCond .le 46, 3) := by decide +kernel
theorem dX8_add_33 : decode cX8_add 33 = .ok (.aload_n 1, 1) := by decide +kernel
theorem dX8_add_34 : decode cX8_add 34 = .ok (.aload_n 0, 1) := by decide +kernel
theorem dX8_add_35 : decode cX8_add 35 = .ok (.getfield 11, 3) := by decide +kernel
theorem dX8_add_38 : decode cX8_add 38 = .ok (.aload_n 0, 1) := by decide +kernel
theorem dX8_add_39 : decode cX8_add 39 = .ok (.getfield 21, 3) := by decide +kernel
theorem dX8_add_42 : decode cX8_add 42 = .ok (.iload 4, 2) := by decide +kernel
theorem dX8_add_44 : decode cX8_add 44 = .ok (.iconst 1, 1) := by decide +kernel
theorem dX8_add_45 : decode cX8_add 45 = .ok (.isub, 1) := by decide +kernel
theorem dX8_add_46 : decode cX8_add 46 = .ok (.iaload, 1) := by decide +kernel
theorem dX8_add_47 : decode cX8_add 47 = .ok (.aaload, 1) := by decide +kernel
theorem dX8_add_48 : decode cX8_add 48 = .ok (.invokevirtual 33, 3) := by decide +kernel
theorem dX8_add_51 : decode cX8_add 51 = .ok (.ifCond .ge 25, 3) := by decide +kernel
theorem dX8_add_54 : decode cX8_add 54 = .ok (.aload_n 0, 1) := by decide +kernel
theorem dX8_add_55 : decode cX8_add 55 = .ok (.getfield 21, 3) := by decide +kernel
theorem dX8_add_58 : decode cX8_add 58 = .ok (.iload 4, 2) := by decide +kernel
theorem dX8_add_60 : decode cX8_add 60 = .ok (.aload_n 0, 1) := by decide +kernel
theorem dX8_add_61 : decode cX8_add 61 = .ok (.getfield 21, 3) := by decide +kernel
theorem dX8_add_64 : decode cX8_add 64 = .ok (.iload 4, 2) := by decide +kernel
theorem dX8_add_66 : decode cX8_add 66 = .ok (.iconst 1, 1) := by decide +kernel
theorem dX8_add_67 : decode cX8_add 67 = .ok (.isub, 1) := by decide +kernel
theorem dX8_add_68 : decode cX8_add 68 = .ok (.iaload, 1) := by decide +kernel
theorem dX8_add_69 : decode cX8_add 69 = .ok (.iastore, 1) := by decide +kernel
theorem dX8_add_70 : decode cX8_add 70 = .ok (.iinc 4 (-1), 3) := by decide +kernel
theorem dX8_add_73 : decode cX8_add 73 = .ok (.goto (-45), 3) := by decide +kernel
theorem dX8_add_76 : decode cX8_add 76 = .ok (.aload_n 0, 1) := by decide +kernel
theorem dX8_add_77 : decode cX8_add 77 = .ok (.getfield 21, 3) := by decide +kernel
theorem dX8_add_80 : decode cX8_add 80 = .ok (.iload 4, 2) := by decide +kernel
theorem dX8_add_82 : decode cX8_add 82 = .ok (.iload_n 3, 1) := by decide +kernel
theorem dX8_add_83 : decode cX8_add 83 = .ok (.iastore, 1) := by decide +kernel
theorem dX8_add_84 : decode cX8_add 84 = .ok (.aload_n 0, 1) := by decide +kernel
theorem dX8_add_85 : decode cX8_add 85 = .ok (.dup, 1) := by decide +kernel
theorem dX8_add_86 : decode cX8_add 86 = .ok (.getfield 28, 3) := by decide +kernel
theorem dX8_add_89 : decode cX8_add 89 = .ok (.iconst 1, 1) := by decide +kernel
theorem dX8_add_90 : decode cX8_add 90 = .ok (.iadd, 1) := by decide +kernel
theorem dX8_add_91 : decode cX8_add 91 = .ok (.putfield 28, 3) := by decide +kernel
theorem dX8_add_94 : decode cX8_add 94 = .ok (.iload_n 3, 1) := by decide +kernel
theorem dX8_add_95 : decode cX8_add 95 = .ok (.ireturn, 1) := by decide +kernel
theorem dX8_rankOf_0 : decode cX8_rankOf 0 = .ok (.iconst 0, 1) := by decide +kernel
theorem dX8_rankOf_1 : decode cX8_rankOf 1 = .ok (.istore_n 2, 1) := by decide +kernel
theorem dX8_rankOf_2 : decode cX8_rankOf 2 = .ok (.iconst 0, 1) := by decide +kernel
theorem dX8_rankOf_3 : decode cX8_rankOf 3 = .ok (.istore_n 3, 1) := by decide +kernel
theorem dX8_rankOf_4 : decode cX8_rankOf 4 = .ok (.iload_n 3, 1) := by decide +kernel
theorem dX8_rankOf_5 : decode cX8_rankOf 5 = .ok (.aload_n 0, 1) := by decide +kernel
theorem dX8_rankOf_6 : decode cX8_rankOf 6 = .ok (.getfield 28, 3) := by decide +kernel
theorem dX8_rankOf_9 : decode cX8_rankOf 9 = .ok (.if_icmp .ge 22, 3) := by decide +kernel
theorem dX8_rankOf_12 : decode cX8_rankOf 12 = .ok (.aload_n 0, 1) := by decide +kernel
theorem dX8_rankOf_13 : decode cX8_rankOf 13 = .ok (.getfield 21, 3) := by decide +kernel
theorem dX8_rankOf_16 : decode cX8_rankOf 16 = .ok (.iload_n 3, 1) := by decide +kernel
theorem dX8_rankOf_17 : decode cX8_rankOf 17 = .ok (.iaload, 1) := by decide +kernel
theorem dX8_rankOf_18 : decode cX8_rankOf 18 = .ok (.iload_n 1, 1) := by decide +kernel
theorem dX8_rankOf_19 : decode cX8_rankOf 19 = .ok (.if_icmp .eq 12, 3) := by decide +kernel
theorem dX8_rankOf_22 : decode cX8_rankOf 22 = .ok (.iinc 2 1, 3) := by decide +kernel
theorem dX8_rankOf_25 : decode cX8_rankOf 25 = .ok (.iinc 3 1, 3) := by decide +kernel
theorem dX8_rankOf_28 : decode cX8_rankOf 28 = .ok (.goto (-24), 3) := by decide +kernel
theorem dX8_rankOf_31 : decode cX8_rankOf 31 = .ok (.iload_n 2, 1) := by decide +kernel
theorem dX8_rankOf_32 : decode cX8_rankOf 32 = .ok (.ireturn, 1) := by decide +kernel
theorem dX8_isPair_0 : decode cX8_isPair 0 = .ok (.aload_n 0, 1) := by decide +kernel
theorem dX8_isPair_1 : decode cX8_isPair 1 = .ok (.getfield 24, 3) := by decide +kernel
theorem dX8_isPair_4 : decode cX8_isPair 4 = .ok (.iload_n 1, 1) := by decide +kernel
theorem dX8_isPair_5 : decode cX8_isPair 5 = .ok (.bipush 60, 2) := by decide +kernel
theorem dX8_isPair_7 : decode cX8_isPair 7 = .ok (.imul, 1) := by decide +kernel
theorem dX8_isPair_8 : decode cX8_isPair 8 = .ok (.iload_n 2, 1) := by decide +kernel
theorem dX8_isPair_9 : decode cX8_isPair 9 = .ok (.iadd, 1) := by decide +kernel
theorem dX8_isPair_10 : decode cX8_isPair 10 = .ok (.baload, 1) := by decide +kernel
theorem dX8_isPair_11 : decode cX8_isPair 11 = .ok (.ireturn, 1) := by decide +kernel
theorem dX8_setPair_0 : decode cX8_setPair 0 = .ok (.aload_n 0, 1) := by decide +kernel
theorem dX8_setPair_1 : decode cX8_setPair 1 = .ok (.iload_n 1, 1) := by decide +kernel
theorem dX8_setPair_2 : decode cX8_setPair 2 = .ok (.iload_n 2, 1) := by decide +kernel
theorem dX8_setPair_3 : decode cX8_setPair 3 = .ok (.invokevirtual 41, 3) := by decide +kernel
theorem dX8_setPair_6 : decode cX8_setPair 6 = .ok (.istore 4, 2) := by decide +kernel
theorem dX8_setPair_8 : decode cX8_setPair 8 = .ok (.aload_n 0, 1) := by decide +kernel
theorem dX8_setPair_9 : decode cX8_setPair 9 = .ok (.getfield 24, 3) := by decide +kernel
theorem dX8_setPair_12 : decode cX8_setPair 12 = .ok (.iload_n 1, 1) := by decide +kernel
theorem dX8_setPair_13 : decode cX8_setPair 13 = .ok (.bipush 60, 2) := by decide +kernel
theorem dX8_setPair_15 : decode cX8_setPair 15 = .ok (.imul, 1) := by decide +kernel
theorem dX8_setPair_16 : decode cX8_setPair 16 = .ok (.iload_n 2, 1) := by decide +kernel
theorem dX8_setPair_17 : decode cX8_setPair 17 = .ok (.iadd, 1) := by decide +kernel
theorem dX8_setPair_18 : decode cX8_setPair 18 = .ok (.iload_n 3, 1) := by decide +kernel
theorem dX8_setPair_19 : decode cX8_setPair 19 = .ok (.bastore, 1) := by decide +kernel
theorem dX8_setPair_20 : decode cX8_setPair 20 = .ok (.iload 4, 2) := by decide +kernel
theorem dX8_setPair_22 : decode cX8_setPair 22 = .ok (.iload_n 3, 1) := by decide +kernel
theorem dX8_setPair_23 : decode cX8_setPair 23 = .ok (.if_icmp .eq 7, 3) := by decide +kernel
theorem dX8_setPair_26 : decode cX8_setPair 26 = .ok (.iconst 1, 1) := by decide +kernel
theorem dX8_setPair_27 : decode cX8_setPair 27 = .ok (.goto 4, 3) := by decide +kernel
theorem dX8_setPair_30 : decode cX8_setPair 30 = .ok (.iconst 0, 1) := by decide +kernel
theorem dX8_setPair_31 : decode cX8_setPair 31 = .ok (.ireturn, 1) := by decide +kernel
theorem dX9_init_0 : decode cX9_init 0 = .ok (.aload_n 0, 1) := by decide +kernel
theorem dX9_init_1 : decode cX9_init 1 = .ok (.invokespecial 1, 3) := by decide +kernel
theorem dX9_init_4 : decode cX9_init 4 = .ok (.aload_n 0, 1) := by decide +kernel
theorem dX9_init_5 : decode cX9_init 5 = .ok (.new 7, 3) := by decide +kernel
theorem dX9_init_8 : decode cX9_init 8 = .ok (.dup, 1) := by decide +kernel
theorem dX9_init_9 : decode cX9_init 9 = .ok (.invokespecial 9, 3) := by decide +kernel
theorem dX9_init_12 : decode cX9_init 12 = .ok (.putfield 10, 3) := by decide +kernel
theorem dX9_init_15 : decode cX9_init 15 = .ok (.aload_n 0, 1) := by decide +kernel
theorem dX9_init_16 : decode cX9_init 16 = .ok (.new 16, 3) := by decide +kernel
theorem dX9_init_19 : decode cX9_init 19 = .ok (.dup, 1) := by decide +kernel
theorem dX9_init_20 : decode cX9_init 20 = .ok (.invokespecial 18, 3) := by decide +kernel
theorem dX9_init_23 : decode cX9_init 23 = .ok (.putfield 19, 3) := by decide +kernel
theorem dX9_init_26 : decode cX9_init 26 = .ok (.aload_n 0, 1) := by decide +kernel
theorem dX9_init_27 : decode cX9_init 27 = .ok (.new 23, 3) := by decide +kernel
theorem dX9_init_30 : decode cX9_init 30 = .ok (.dup, 1) := by decide +kernel
theorem dX9_init_31 : decode cX9_init 31 = .ok (.invokespecial 25, 3) := by decide +kernel
theorem dX9_init_34 : decode cX9_init 34 = .ok (.putfield 26, 3) := by decide +kernel
theorem dX9_init_37 : decode cX9_init 37 = .ok (.aload_n 0, 1) := by decide +kernel
theorem dX9_init_38 : decode cX9_init 38 = .ok (.new 30, 3) := by decide +kernel
theorem dX9_init_41 : decode cX9_init 41 = .ok (.dup, 1) := by decide +kernel
theorem dX9_init_42 : decode cX9_init 42 = .ok (.invokespecial 32, 3) := by decide +kernel
theorem dX9_init_45 : decode cX9_init 45 = .ok (.putfield 33, 3) := by decide +kernel
theorem dX9_init_48 : decode cX9_init 48 = .ok (.aload_n 0, 1) := by decide +kernel
theorem dX9_init_49 : decode cX9_init 49 = .ok (.new 37, 3) := by decide +kernel
theorem dX9_init_52 : decode cX9_init 52 = .ok (.dup, 1) := by decide +kernel
theorem dX9_init_53 : decode cX9_init 53 = .ok (.aload_n 0, 1) := by decide +kernel
theorem dX9_init_54 : decode cX9_init 54 = .ok (.getfield 19, 3) := by decide +kernel
theorem dX9_init_57 : decode cX9_init 57 = .ok (.invokespecial 39, 3) := by decide +kernel
theorem dX9_init_60 : decode cX9_init 60 = .ok (.putfield 42, 3) := by decide +kernel
theorem dX9_init_63 : decode cX9_init 63 = .ok (.aload_n 0, 1) := by decide +kernel
theorem dX9_init_64 : decode cX9_init 64 = .ok (.new 46, 3) := by decide +kernel
theorem dX9_init_67 : decode cX9_init 67 = .ok (.dup, 1) := by decide +kernel
theorem dX9_init_68 : decode cX9_init 68 = .ok (.invokespecial 48, 3) := by decide +kernel
theorem dX9_init_71 : decode cX9_init 71 = .ok (.putfield 49, 3) := by decide +kernel
theorem dX9_init_74 : decode cX9_init 74 = .ok (.aload_n 0, 1) := by decide +kernel
theorem dX9_init_75 : decode cX9_init 75 = .ok (.new 53, 3) := by decide +kernel
theorem dX9_init_78 : decode cX9_init 78 = .ok (.dup, 1) := by decide +kernel
theorem dX9_init_79 : decode cX9_init 79 = .ok (.invokespecial 55, 3) := by decide +kernel
theorem dX9_init_82 : decode cX9_init 82 = .ok (.putfield 56, 3) := by decide +kernel
theorem dX9_init_85 : decode cX9_init 85 = .ok (.aload_n 0, 1) := by decide +kernel
theorem dX9_init_86 : decode cX9_init 86 = .ok (.new 60, 3) := by decide +kernel
theorem dX9_init_89 : decode cX9_init 89 = .ok (.dup, 1) := by decide +kernel
theorem dX9_init_90 : decode cX9_init 90 = .ok (.invokespecial 62, 3) := by decide +kernel
theorem dX9_init_93 : decode cX9_init 93 = .ok (.putfield 63, 3) := by decide +kernel
theorem dX9_init_96 : decode cX9_init 96 = .ok (.return_, 1) := by decide +kernel
theorem dX9_letter_0 : decode cX9_letter 0 = .ok (.iload_n 1, 1) := by decide +kernel
theorem dX9_letter_1 : decode cX9_letter 1 = .ok (.invokestatic 67, 3) := by decide +kernel
theorem dX9_letter_4 : decode cX9_letter 4 = .ok (.ifCond .ne 5, 3) := by decide +kernel
theorem dX9_letter_7 : decode cX9_letter 7 = .ok (.iconst (-1), 1) := by decide +kernel
theorem dX9_letter_8 : decode cX9_letter 8 = .ok (.ireturn, 1) := by decide +kernel
theorem dX9_letter_9 : decode cX9_letter 9 = .ok (.aload_n 0, 1) := by decide +kernel
theorem dX9_letter_10 : decode cX9_letter 10 = .ok (.getfield 10, 3) := by decide +kernel
theorem dX9_letter_13 : decode cX9_letter 13 = .ok (.iload_n 1, 1) := by decide +kernel
theorem dX9_letter_14 : decode cX9_letter 14 = .ok (.invokevirtual 71, 3) := by decide +kernel
theorem dX9_letter_17 : decode cX9_letter 17 = .ok (.ifCond .ne 6, 3) := by decide +kernel
theorem dX9_letter_20 : decode cX9_letter 20 = .ok (.bipush (-4), 2) := by decide +kernel
theorem dX9_letter_22 : decode cX9_letter 22 = .ok (.ireturn, 1) := by decide +kernel
theorem dX9_letter_23 : decode cX9_letter 23 = .ok (.aload_n 0, 1) := by decide +kernel
theorem dX9_letter_24 : decode cX9_letter 24 = .ok (.getfield 10, 3) := by decide +kernel
theorem dX9_letter_27 : decode cX9_letter 27 = .ok (.getfield 74, 3) := by decide +kernel
theorem dX9_letter_30 : decode cX9_letter 30 = .ok (.ireturn, 1) := by decide +kernel
theorem dX9_clear_0 : decode cX9_clear 0 = .ok (.aload_n 0, 1) := by decide +kernel
theorem dX9_clear_1 : decode cX9_clear 1 = .ok (.getfield 10, 3) := by decide +kernel
theorem dX9_clear_4 : decode cX9_clear 4 = .ok (.getfield 74, 3) := by decide +kernel
theorem dX9_clear_7 : decode cX9_clear 7 = .ok (.istore_n 1, 1) := by decide +kernel
theorem dX9_clear_8 : decode cX9_clear 8 = .ok (.aload_n 0, 1) := by decide +kernel
theorem dX9_clear_9 : decode cX9_clear 9 = .ok (.getfield 10, 3) := by decide +kernel
theorem dX9_clear_12 : decode cX9_clear 12 = .ok (.iconst 0, 1) := by decide +kernel
theorem dX9_clear_13 : decode cX9_clear 13 = .ok (.putfield 74, 3) := by decide +kernel
theorem dX9_clear_16 : decode cX9_clear 16 = .ok (.iload_n 1, 1) := by decide +kernel
theorem dX9_clear_17 : decode cX9_clear 17 = .ok (.ireturn, 1) := by decide +kernel
theorem dX9_word_0 : decode cX9_word 0 = .ok (.iload_n 1, 1) := by decide +kernel
theorem dX9_word_1 : decode cX9_word 1 = .ok (.invokestatic 78, 3) := by decide +kernel
theorem dX9_word_4 : decode cX9_word 4 = .ok (.ifCond .eq 13, 3) := by decide +kernel
theorem dX9_word_7 : decode cX9_word 7 = .ok (.aload_n 0, 1) := by decide +kernel
theorem dX9_word_8 : decode cX9_word 8 = .ok (.getfield 10, 3) := by decide +kernel
theorem dX9_word_11 : decode cX9_word 11 = .ok (.getfield 74, 3) := by decide +kernel
theorem dX9_word_14 : decode cX9_word 14 = .ok (.ifCond .ne 6, 3) := by decide +kernel
theorem dX9_word_17 : decode cX9_word 17 = .ok (.bipush (-2), 2) := by decide +kernel
theorem dX9_word_19 : decode cX9_word 19 = .ok (.ireturn, 1) := by decide +kernel
theorem dX9_word_20 : decode cX9_word 20 = .ok (.aload_n 0, 1) := by decide +kernel
theorem dX9_word_21 : decode cX9_word 21 = .ok (.getfield 26, 3) := by decide +kernel
theorem dX9_word_24 : decode cX9_word 24 = .ok (.aload_n 0, 1) := by decide +kernel
theorem dX9_word_25 : decode cX9_word 25 = .ok (.getfield 10, 3) := by decide +kernel
theorem dX9_word_28 : decode cX9_word 28 = .ok (.invokevirtual 81, 3) := by decide +kernel
theorem dX9_word_31 : decode cX9_word 31 = .ok (.ifCond .eq 6, 3) := by decide +kernel
theorem dX9_word_34 : decode cX9_word 34 = .ok (.bipush (-3), 2) := by decide +kernel
theorem dX9_word_36 : decode cX9_word 36 = .ok (.ireturn, 1) := by decide +kernel
theorem dX9_word_37 : decode cX9_word 37 = .ok (.aload_n 0, 1) := by decide +kernel
theorem dX9_word_38 : decode cX9_word 38 = .ok (.getfield 26, 3) := by decide +kernel
theorem dX9_word_41 : decode cX9_word 41 = .ok (.getfield 85, 3) := by decide +kernel
theorem dX9_word_44 : decode cX9_word 44 = .ok (.bipush 60, 2) := by decide +kernel
theorem dX9_word_46 : decode cX9_word 46 = .ok (.if_icmp .lt 6, 3) := by decide +kernel
theorem dX9_word_49 : decode cX9_word 49 = .ok (.bipush (-4), 2) := by decide +kernel
theorem dX9_word_51 : decode cX9_word 51 = .ok (.ireturn, 1) := by decide +kernel
theorem dX9_word_52 : decode cX9_word 52 = .ok (.aload_n 0, 1) := by decide +kernel
theorem dX9_word_53 : decode cX9_word 53 = .ok (.getfield 26, 3) := by decide +kernel
theorem dX9_word_56 : decode cX9_word 56 = .ok (.aload_n 0, 1) := by decide +kernel
theorem dX9_word_57 : decode cX9_word 57 = .ok (.getfield 10, 3) := by decide +kernel
theorem dX9_word_60 : decode cX9_word 60 = .ok (.iload_n 1, 1) := by decide +kernel
theorem dX9_word_61 : decode cX9_word 61 = .ok (.invokevirtual 88, 3) := by decide +kernel
theorem dX9_word_64 : decode cX9_word 64 = .ok (.ireturn, 1) := by decide +kernel
theorem dX9_count_0 : decode cX9_count 0 = .ok (.aload_n 0, 1) := by decide +kernel
theorem dX9_count_1 : decode cX9_count 1 = .ok (.getfield 26, 3) := by decide +kernel
theorem dX9_count_4 : decode cX9_count 4 = .ok (.iload_n 1, 1) := by decide +kernel
theorem dX9_count_5 : decode cX9_count 5 = .ok (.invokevirtual 91, 3) := by decide +kernel
theorem dX9_count_8 : decode cX9_count 8 = .ok (.ifCond .ne 5, 3) := by decide +kernel
theorem dX9_count_11 : decode cX9_count 11 = .ok (.iconst (-1), 1) := by decide +kernel
theorem dX9_count_12 : decode cX9_count 12 = .ok (.ireturn, 1) := by decide +kernel
theorem dX9_count_13 : decode cX9_count 13 = .ok (.iload_n 2, 1) := by decide +kernel
theorem dX9_count_14 : decode cX9_count 14 = .ok (.invokestatic 78, 3) := by decide +kernel
theorem dX9_count_17 : decode cX9_count 17 = .ok (.ifCond .ne 6, 3) := by decide +kernel
theorem dX9_count_20 : decode cX9_count 20 = .ok (.bipush (-2), 2) := by decide +kernel
theorem dX9_count_22 : decode cX9_count 22 = .ok (.ireturn, 1) := by decide +kernel
theorem dX9_count_23 : decode cX9_count 23 = .ok (.aload_n 0, 1) := by decide +kernel
theorem dX9_count_24 : decode cX9_count 24 = .ok (.getfield 26, 3) := by decide +kernel
theorem dX9_count_27 : decode cX9_count 27 = .ok (.getfield 94, 3) := by decide +kernel
theorem dX9_count_30 : decode cX9_count 30 = .ok (.iload_n 1, 1) := by decide +kernel
theorem dX9_count_31 : decode cX9_count 31 = .ok (.iaload, 1) := by decide +kernel
theorem dX9_count_32 : decode cX9_count 32 = .ok (.istore_n 3, 1) := by decide +kernel
theorem dX9_count_33 : decode cX9_count 33 = .ok (.aload_n 0, 1) := by decide +kernel
theorem dX9_count_34 : decode cX9_count 34 = .ok (.getfield 26, 3) := by decide +kernel
theorem dX9_count_37 : decode cX9_count 37 = .ok (.getfield 94, 3) := by decide +kernel
theorem dX9_count_40 : decode cX9_count 40 = .ok (.iload_n 1, 1) := by decide +kernel
theorem dX9_count_41 : decode cX9_count 41 = .ok (.iload_n 2, 1) := by decide +kernel
theorem dX9_count_42 : decode cX9_count 42 = .ok (.iastore, 1) := by decide +kernel
theorem dX9_count_43 : decode cX9_count 43 = .ok (.iload_n 3, 1) := by decide +kernel
theorem dX9_count_44 : decode cX9_count 44 = .ok (.ireturn, 1) := by decide +kernel
theorem dX9_at_0 : decode cX9_at 0 = .ok (.aload_n 0, 1) := by decide +kernel
theorem dX9_at_1 : decode cX9_at 1 = .ok (.getfield 26, 3) := by decide +kernel
theorem dX9_at_4 : decode cX9_at 4 = .ok (.iload_n 1, 1) := by decide +kernel
theorem dX9_at_5 : decode cX9_at 5 = .ok (.invokevirtual 91, 3) := by decide +kernel
theorem dX9_at_8 : decode cX9_at 8 = .ok (.ifCond .ne 5, 3) := by decide +kernel
theorem dX9_at_11 : decode cX9_at 11 = .ok (.iconst (-1), 1) := by decide +kernel
theorem dX9_at_12 : decode cX9_at 12 = .ok (.ireturn, 1) := by decide +kernel
theorem dX9_at_13 : decode cX9_at 13 = .ok (.aload_n 0, 1) := by decide +kernel
theorem dX9_at_14 : decode cX9_at 14 = .ok (.getfield 26, 3) := by decide +kernel
theorem dX9_at_17 : decode cX9_at 17 = .ok (.getfield 98, 3) := by decide +kernel
theorem dX9_at_20 : decode cX9_at 20 = .ok (.iload_n 1, 1) := by decide +kernel
theorem dX9_at_21 : decode cX9_at 21 = .ok (.aaload, 1) := by decide +kernel
theorem dX9_at_22 : decode cX9_at 22 = .ok (.astore_n 3, 1) := by decide +kernel
theorem dX9_at_23 : decode cX9_at 23 = .ok (.iload_n 2, 1) := by decide +kernel
theorem dX9_at_24 : decode cX9_at 24 = .ok (.iconst (-1), 1) := by decide +kernel
theorem dX9_at_25 : decode cX9_at 25 = .ok (.if_icmp .ne 12, 3) := by decide +kernel
theorem dX9_at_28 : decode cX9_at 28 = .ok (.aload_n 0, 1) := by decide +kernel
theorem dX9_at_29 : decode cX9_at 29 = .ok (.getfield 26, 3) := by decide +kernel
theorem dX9_at_32 : decode cX9_at 32 = .ok (.iload_n 1, 1) := by decide +kernel
theorem dX9_at_33 : decode cX9_at 33 = .ok (.invokevirtual 102, 3) := by decide +kernel
theorem dX9_at_36 : decode cX9_at 36 = .ok (.ireturn, 1) := by decide +kernel
theorem dX9_at_37 : decode cX9_at 37 = .ok (.iload_n 2, 1) := by decide +kernel
theorem dX9_at_38 : decode cX9_at 38 = .ok (.bipush (-2), 2) := by decide +kernel
theorem dX9_at_40 : decode cX9_at 40 = .ok (.if_icmp .ne 8, 3) := by decide +kernel
theorem dX9_at_43 : decode cX9_at 43 = .ok (.aload_n 3, 1) := by decide +kernel
theorem dX9_at_44 : decode cX9_at 44 = .ok (.getfield 74, 3) := by decide +kernel
theorem dX9_at_47 : decode cX9_at 47 = .ok (.ireturn, 1) := by decide +kernel
theorem dX9_at_48 : decode cX9_at 48 = .ok (.iload_n 2, 1) := by decide +kernel
theorem dX9_at_49 : decode cX9_at 49 = .ok (.ifCond .lt 11, 3) := by decide +kernel
theorem dX9_at_52 : decode cX9_at 52 = .ok (.iload_n 2, 1) := by decide +kernel
theorem dX9_at_53 : decode cX9_at 53 = .ok (.aload_n 3, 1) := by decide +kernel
theorem dX9_at_54 : decode cX9_at 54 = .ok (.getfield 74, 3) := by decide +kernel
theorem dX9_at_57 : decode cX9_at 57 = .ok (.if_icmp .lt 5, 3) := by decide +kernel
theorem dX9_at_60 : decode cX9_at 60 = .ok (.iconst (-1), 1) := by decide +kernel
theorem dX9_at_61 : decode cX9_at 61 = .ok (.ireturn, 1) := by decide +kernel
theorem dX9_at_62 : decode cX9_at 62 = .ok (.aload_n 3, 1) := by decide +kernel
theorem dX9_at_63 : decode cX9_at 63 = .ok (.getfield 106, 3) := by decide +kernel
theorem dX9_at_66 : decode cX9_at 66 = .ok (.iload_n 2, 1) := by decide +kernel
theorem dX9_at_67 : decode cX9_at 67 = .ok (.iaload, 1) := by decide +kernel
theorem dX9_at_68 : decode cX9_at 68 = .ok (.ireturn, 1) := by decide +kernel
theorem dX9_price_0 : decode cX9_price 0 = .ok (.iload_n 1, 1) := by decide +kernel
theorem dX9_price_1 : decode cX9_price 1 = .ok (.ifCond .lt 9, 3) := by decide +kernel
theorem dX9_price_4 : decode cX9_price 4 = .ok (.iload_n 1, 1) := by decide +kernel
theorem dX9_price_5 : decode cX9_price 5 = .ok (.bipush 6, 2) := by decide +kernel
theorem dX9_price_7 : decode cX9_price 7 = .ok (.if_icmp .lt 6, 3) := by decide +kernel
theorem dX9_price_10 : decode cX9_price 10 = .ok (.bipush (-2), 2) := by decide +kernel
theorem dX9_price_12 : decode cX9_price 12 = .ok (.ireturn, 1) := by decide +kernel
theorem dX9_price_13 : decode cX9_price 13 = .ok (.iload_n 1, 1) := by decide +kernel
theorem dX9_price_14 : decode cX9_price 14 = .ok (.iconst 4, 1) := by decide +kernel
theorem dX9_price_15 : decode cX9_price 15 = .ok (.if_icmp .eq 8, 3) := by decide +kernel
theorem dX9_price_18 : decode cX9_price 18 = .ok (.iload_n 1, 1) := by decide +kernel
theorem dX9_price_19 : decode cX9_price 19 = .ok (.iconst 5, 1) := by decide +kernel
theorem dX9_price_20 : decode cX9_price 20 = .ok (.if_icmp .ne 8, 3) := by decide +kernel
theorem dX9_price_23 : decode cX9_price 23 = .ok (.bipush 50, 2) := by decide +kernel
theorem dX9_price_25 : decode cX9_price 25 = .ok (.goto 5, 3) := by decide +kernel
theorem dX9_price_28 : decode cX9_price 28 = .ok (.bipush 9, 2) := by decide +kernel
theorem dX9_price_30 : decode cX9_price 30 = .ok (.istore_n 3, 1) := by decide +kernel
theorem dX9_price_31 : decode cX9_price 31 = .ok (.iload_n 2, 1) := by decide +kernel
theorem dX9_price_32 : decode cX9_price 32 = .ok (.ifCond .lt 8, 3) := by decide +kernel
theorem dX9_price_35 : decode cX9_price 35 = .ok (.iload_n 2, 1) := by decide +kernel
theorem dX9_price_36 : decode cX9_price 36 = .ok (.iload_n 3, 1) := by decide +kernel
theorem dX9_price_37 : decode cX9_price 37 = .ok (.if_icmp .le 6, 3) := by decide +kernel
theorem dX9_price_40 : decode cX9_price 40 = .ok (.bipush (-2), 2) := by decide +kernel
theorem dX9_price_42 : decode cX9_price 42 = .ok (.ireturn, 1) := by decide +kernel
theorem dX9_price_43 : decode cX9_price 43 = .ok (.aload_n 0, 1) := by decide +kernel
theorem dX9_price_44 : decode cX9_price 44 = .ok (.getfield 19, 3) := by decide +kernel
theorem dX9_price_47 : decode cX9_price 47 = .ok (.getfield 109, 3) := by decide +kernel
theorem dX9_price_50 : decode cX9_price 50 = .ok (.iload_n 1, 1) := by decide +kernel
theorem dX9_price_51 : decode cX9_price 51 = .ok (.iaload, 1) := by decide +kernel
theorem dX9_price_52 : decode cX9_price 52 = .ok (.istore 4, 2) := by decide +kernel
theorem dX9_price_54 : decode cX9_price 54 = .ok (.aload_n 0, 1) := by decide +kernel
theorem dX9_price_55 : decode cX9_price 55 = .ok (.getfield 19, 3) := by decide +kernel
theorem dX9_price_58 : decode cX9_price 58 = .ok (.getfield 109, 3) := by decide +kernel
theorem dX9_price_61 : decode cX9_price 61 = .ok (.iload_n 1, 1) := by decide +kernel
theorem dX9_price_62 : decode cX9_price 62 = .ok (.iload_n 2, 1) := by decide +kernel
theorem dX9_price_63 : decode cX9_price 63 = .ok (.iastore, 1) := by decide +kernel
theorem dX9_price_64 : decode cX9_price 64 = .ok (.iload 4, 2) := by decide +kernel
theorem dX9_price_66 : decode cX9_price 66 = .ok (.ireturn, 1) := by decide +kernel
theorem dX9_near_0 : decode cX9_near 0 = .ok (.iload_n 1, 1) := by decide +kernel
theorem dX9_near_1 : decode cX9_near 1 = .ok (.invokestatic 67, 3) := by decide +kernel
theorem dX9_near_4 : decode cX9_near 4 = .ok (.ifCond .eq 15, 3) := by decide +kernel
theorem dX9_near_7 : decode cX9_near 7 = .ok (.iload_n 2, 1) := by decide +kernel
theorem dX9_near_8 : decode cX9_near 8 = .ok (.invokestatic 67, 3) := by decide +kernel
theorem dX9_near_11 : decode cX9_near 11 = .ok (.ifCond .eq 8, 3) := by decide +kernel
theorem dX9_near_14 : decode cX9_near 14 = .ok (.iload_n 1, 1) := by decide +kernel
theorem dX9_near_15 : decode cX9_near 15 = .ok (.iload_n 2, 1) := by decide +kernel
theorem dX9_near_16 : decode cX9_near 16 = .ok (.if_icmp .ne 5, 3) := by decide +kernel
theorem dX9_near_19 : decode cX9_near 19 = .ok (.iconst (-1), 1) := by decide +kernel
theorem dX9_near_20 : decode cX9_near 20 = .ok (.ireturn, 1) := by decide +kernel
theorem dX9_near_21 : decode cX9_near 21 = .ok (.iload_n 3, 1) := by decide +kernel
theorem dX9_near_22 : decode cX9_near 22 = .ok (.iconst (-1), 1) := by decide +kernel
theorem dX9_near_23 : decode cX9_near 23 = .ok (.if_icmp .lt 9, 3) := by decide +kernel
theorem dX9_near_26 : decode cX9_near 26 = .ok (.iload_n 3, 1) := by decide +kernel
theorem dX9_near_27 : decode cX9_near 27 = .ok (.bipush 9, 2) := by decide +kernel
theorem dX9_near_29 : decode cX9_near 29 = .ok (.if_icmp .le 6, 3) := by decide +kernel
theorem dX9_near_32 : decode cX9_near 32 = .ok (.bipush (-2), 2) := by decide +kernel
theorem dX9_near_34 : decode cX9_near 34 = .ok (.ireturn, 1) := by decide +kernel
theorem dX9_near_35 : decode cX9_near 35 = .ok (.aload_n 0, 1) := by decide +kernel
theorem dX9_near_36 : decode cX9_near 36 = .ok (.getfield 19, 3) := by decide +kernel
theorem dX9_near_39 : decode cX9_near 39 = .ok (.getfield 112, 3) := by decide +kernel
theorem dX9_near_42 : decode cX9_near 42 = .ok (.iload_n 1, 1) := by decide +kernel
theorem dX9_near_43 : decode cX9_near 43 = .ok (.aaload, 1) := by decide +kernel
theorem dX9_near_44 : decode cX9_near 44 = .ok (.iload_n 2, 1) := by decide +kernel
theorem dX9_near_45 : decode cX9_near 45 = .ok (.iaload, 1) := by decide +kernel
theorem dX9_near_46 : decode cX9_near 46 = .ok (.istore 4, 2) := by decide +kernel
theorem dX9_near_48 : decode cX9_near 48 = .ok (.aload_n 0, 1) := by decide +kernel
theorem dX9_near_49 : decode cX9_near 49 = .ok (.getfield 19, 3) := by decide +kernel
theorem dX9_near_52 : decode cX9_near 52 = .ok (.getfield 112, 3) := by decide +kernel
theorem dX9_near_55 : decode cX9_near 55 = .ok (.iload_n 1, 1) := by decide +kernel
theorem dX9_near_56 : decode cX9_near 56 = .ok (.aaload, 1) := by decide +kernel
theorem dX9_near_57 : decode cX9_near 57 = .ok (.iload_n 2, 1) := by decide +kernel
theorem dX9_near_58 : decode cX9_near 58 = .ok (.iload_n 3, 1) := by decide +kernel
theorem dX9_near_59 : decode cX9_near 59 = .ok (.iastore, 1) := by decide +kernel
theorem dX9_near_60 : decode cX9_near 60 = .ok (.iload 4, 2) := by decide +kernel
theorem dX9_near_62 : decode cX9_near 62 = .ok (.iconst (-1), 1) := by decide +kernel
theorem dX9_near_63 : decode cX9_near 63 = .ok (.if_icmp .ne 8, 3) := by decide +kernel
theorem dX9_near_66 : decode cX9_near 66 = .ok (.bipush (-3), 2) := by decide +kernel
theorem dX9_near_68 : decode cX9_near 68 = .ok (.goto 5, 3) := by decide +kernel
theorem dX9_near_71 : decode cX9_near 71 = .ok (.iload 4, 2) := by decide +kernel
theorem dX9_near_73 : decode cX9_near 73 = .ok (.ireturn, 1) := by decide +kernel
theorem dX9_distance_0 : decode cX9_distance 0 = .ok (.aload_n 0, 1) := by decide +kernel
theorem dX9_distance_1 : decode cX9_distance 1 = .ok (.getfield 26, 3) := by decide +kernel
theorem dX9_distance_4 : decode cX9_distance 4 = .ok (.iload_n 1, 1) := by decide +kernel
theorem dX9_distance_5 : decode cX9_distance 5 = .ok (.invokevirtual 91, 3) := by decide +kernel
theorem dX9_distance_8 : decode cX9_distance 8 = .ok (.ifCond .ne 5, 3) := by decide +kernel
theorem dX9_distance_11 : decode cX9_distance 11 = .ok (.iconst (-1), 1) := by decide +kernel
theorem dX9_distance_12 : decode cX9_distance 12 = .ok (.ireturn, 1) := by decide +kernel
theorem dX9_distance_13 : decode cX9_distance 13 = .ok (.aload_n 0, 1) := by decide +kernel
theorem dX9_distance_14 : decode cX9_distance 14 = .ok (.iload_n 1, 1) := by decide +kernel
theorem dX9_distance_15 : decode cX9_distance 15 = .ok (.invokevirtual 116, 3) := by decide +kernel
theorem dX9_distance_18 : decode cX9_distance 18 = .ok (.ireturn, 1) := by decide +kernel
theorem dX9_begins_0 : decode cX9_begins 0 = .ok (.aload_n 0, 1) := by decide +kernel
theorem dX9_begins_1 : decode cX9_begins 1 = .ok (.getfield 26, 3) := by decide +kernel
theorem dX9_begins_4 : decode cX9_begins 4 = .ok (.iload_n 1, 1) := by decide +kernel
theorem dX9_begins_5 : decode cX9_begins 5 = .ok (.invokevirtual 91, 3) := by decide +kernel
theorem dX9_begins_8 : decode cX9_begins 8 = .ok (.ifCond .ne 5, 3) := by decide +kernel
theorem dX9_begins_11 : decode cX9_begins 11 = .ok (.iconst (-1), 1) := by decide +kernel
theorem dX9_begins_12 : decode cX9_begins 12 = .ok (.ireturn, 1) := by decide +kernel
theorem dX9_begins_13 : decode cX9_begins 13 = .ok (.aload_n 0, 1) := by decide +kernel
theorem dX9_begins_14 : decode cX9_begins 14 = .ok (.getfield 42, 3) := by decide +kernel
theorem dX9_begins_17 : decode cX9_begins 17 = .ok (.aload_n 0, 1) := by decide +kernel
theorem dX9_begins_18 : decode cX9_begins 18 = .ok (.getfield 10, 3) := by decide +kernel
theorem dX9_begins_21 : decode cX9_begins 21 = .ok (.aload_n 0, 1) := by decide +kernel
theorem dX9_begins_22 : decode cX9_begins 22 = .ok (.getfield 26, 3) := by decide +kernel
theorem dX9_begins_25 : decode cX9_begins 25 = .ok (.getfield 98, 3) := by decide +kernel
theorem dX9_begins_28 : decode cX9_begins 28 = .ok (.iload_n 1, 1) := by decide +kernel
theorem dX9_begins_29 : decode cX9_begins 29 = .ok (.aaload, 1) := by decide +kernel
theorem dX9_begins_30 : decode cX9_begins 30 = .ok (.invokevirtual 119, 3) := by decide +kernel
theorem dX9_begins_33 : decode cX9_begins 33 = .ok (.pop, 1) := by decide +kernel
theorem dX9_begins_34 : decode cX9_begins 34 = .ok (.aload_n 0, 1) := by decide +kernel
theorem dX9_begins_35 : decode cX9_begins 35 = .ok (.getfield 42, 3) := by decide +kernel
theorem dX9_begins_38 : decode cX9_begins 38 = .ok (.invokevirtual 123, 3) := by decide +kernel
theorem dX9_begins_41 : decode cX9_begins 41 = .ok (.ireturn, 1) := by decide +kernel
theorem dX9_edit_0 : decode cX9_edit 0 = .ok (.aload_n 0, 1) := by decide +kernel
theorem dX9_edit_1 : decode cX9_edit 1 = .ok (.getfield 26, 3) := by decide +kernel
theorem dX9_edit_4 : decode cX9_edit 4 = .ok (.iload_n 1, 1) := by decide +kernel
theorem dX9_edit_5 : decode cX9_edit 5 = .ok (.invokevirtual 91, 3) := by decide +kernel
theorem dX9_edit_8 : decode cX9_edit 8 = .ok (.ifCond .ne 5, 3) := by decide +kernel
theorem dX9_edit_11 : decode cX9_edit 11 = .ok (.iconst (-1), 1) := by decide +kernel
theorem dX9_edit_12 : decode cX9_edit 12 = .ok (.ireturn, 1) := by decide +kernel
theorem dX9_edit_13 : decode cX9_edit 13 = .ok (.aload_n 0, 1) := by decide +kernel
theorem dX9_edit_14 : decode cX9_edit 14 = .ok (.iload_n 1, 1) := by decide +kernel
theorem dX9_edit_15 : decode cX9_edit 15 = .ok (.invokevirtual 127, 3) := by decide +kernel
theorem dX9_edit_18 : decode cX9_edit 18 = .ok (.iload_n 2, 1) := by decide +kernel
theorem dX9_edit_19 : decode cX9_edit 19 = .ok (.iconst (-1), 1) := by decide +kernel
theorem dX9_edit_20 : decode cX9_edit 20 = .ok (.if_icmp .ne 11, 3) := by decide +kernel
theorem dX9_edit_23 : decode cX9_edit 23 = .ok (.aload_n 0, 1) := by decide +kernel
theorem dX9_edit_24 : decode cX9_edit 24 = .ok (.getfield 42, 3) := by decide +kernel
theorem dX9_edit_27 : decode cX9_edit 27 = .ok (.getfield 131, 3) := by decide +kernel
theorem dX9_edit_30 : decode cX9_edit 30 = .ok (.ireturn, 1) := by decide +kernel
theorem dX9_edit_31 : decode cX9_edit 31 = .ok (.iload_n 2, 1) := by decide +kernel
theorem dX9_edit_32 : decode cX9_edit 32 = .ok (.ifCond .lt 14, 3) := by decide +kernel
theorem dX9_edit_35 : decode cX9_edit 35 = .ok (.iload_n 2, 1) := by decide +kernel
theorem dX9_edit_36 : decode cX9_edit 36 = .ok (.aload_n 0, 1) := by decide +kernel
theorem dX9_edit_37 : decode cX9_edit 37 = .ok (.getfield 42, 3) := by decide +kernel
theorem dX9_edit_40 : decode cX9_edit 40 = .ok (.getfield 131, 3) := by decide +kernel
theorem dX9_edit_43 : decode cX9_edit 43 = .ok (.if_icmp .lt 5, 3) := by decide +kernel
theorem dX9_edit_46 : decode cX9_edit 46 = .ok (.iconst (-1), 1) := by decide +kernel
theorem dX9_edit_47 : decode cX9_edit 47 = .ok (.ireturn, 1) := by decide +kernel
theorem dX9_edit_48 : decode cX9_edit 48 = .ok (.aload_n 0, 1) := by decide +kernel
theorem dX9_edit_49 : decode cX9_edit 49 = .ok (.getfield 42, 3) := by decide +kernel
theorem dX9_edit_52 : decode cX9_edit 52 = .ok (.iload_n 2, 1) := by decide +kernel
theorem dX9_edit_53 : decode cX9_edit 53 = .ok (.invokevirtual 134, 3) := by decide +kernel
theorem dX9_edit_56 : decode cX9_edit 56 = .ok (.ireturn, 1) := by decide +kernel
theorem dX9_place_0 : decode cX9_place 0 = .ok (.aload_n 0, 1) := by decide +kernel
theorem dX9_place_1 : decode cX9_place 1 = .ok (.getfield 26, 3) := by decide +kernel
theorem dX9_place_4 : decode cX9_place 4 = .ok (.iload_n 1, 1) := by decide +kernel
theorem dX9_place_5 : decode cX9_place 5 = .ok (.invokevirtual 91, 3) := by decide +kernel
theorem dX9_place_8 : decode cX9_place 8 = .ok (.ifCond .ne 5, 3) := by decide +kernel
theorem dX9_place_11 : decode cX9_place 11 = .ok (.iconst (-1), 1) := by decide +kernel
theorem dX9_place_12 : decode cX9_place 12 = .ok (.ireturn, 1) := by decide +kernel
theorem dX9_place_13 : decode cX9_place 13 = .ok (.aload_n 0, 1) := by decide +kernel
theorem dX9_place_14 : decode cX9_place 14 = .ok (.iload_n 1, 1) := by decide +kernel
theorem dX9_place_15 : decode cX9_place 15 = .ok (.invokevirtual 127, 3) := by decide +kernel
theorem dX9_place_18 : decode cX9_place 18 = .ok (.iload_n 2, 1) := by decide +kernel
theorem dX9_place_19 : decode cX9_place 19 = .ok (.ifCond .lt 14, 3) := by decide +kernel
theorem dX9_place_22 : decode cX9_place 22 = .ok (.iload_n 2, 1) := by decide +kernel
theorem dX9_place_23 : decode cX9_place 23 = .ok (.aload_n 0, 1) := by decide +kernel
theorem dX9_place_24 : decode cX9_place 24 = .ok (.getfield 42, 3) := by decide +kernel
theorem dX9_place_27 : decode cX9_place 27 = .ok (.getfield 131, 3) := by decide +kernel
theorem dX9_place_30 : decode cX9_place 30 = .ok (.if_icmp .lt 5, 3) := by decide +kernel
theorem dX9_place_33 : decode cX9_place 33 = .ok (.iconst (-1), 1) := by decide +kernel
theorem dX9_place_34 : decode cX9_place 34 = .ok (.ireturn, 1) := by decide +kernel
theorem dX9_place_35 : decode cX9_place 35 = .ok (.aload_n 0, 1) := by decide +kernel
theorem dX9_place_36 : decode cX9_place 36 = .ok (.getfield 42, 3) := by decide +kernel
theorem dX9_place_39 : decode cX9_place 39 = .ok (.iload_n 2, 1) := by decide +kernel
theorem dX9_place_40 : decode cX9_place 40 = .ok (.invokevirtual 137, 3) := by decide +kernel
theorem dX9_place_43 : decode cX9_place 43 = .ok (.ireturn, 1) := by decide +kernel
theorem dX9_suggest_0 : decode cX9_suggest 0 = .ok (.aload_n 0, 1) := by decide +kernel
theorem dX9_suggest_1 : decode cX9_suggest 1 = .ok (.iload_n 1, 1) := by decide +kernel
theorem dX9_suggest_2 : decode cX9_suggest 2 = .ok (.iconst 0, 1) := by decide +kernel
theorem dX9_suggest_3 : decode cX9_suggest 3 = .ok (.invokevirtual 140, 3) := by decide +kernel
theorem dX9_suggest_6 : decode cX9_suggest 6 = .ok (.ireturn, 1) := by decide +kernel
theorem dX9_suggestion_0 : decode cX9_suggestion 0 = .ok (.aload_n 0, 1) := by decide +kernel
theorem dX9_suggestion_1 : decode cX9_suggestion 1 = .ok (.iload_n 1, 1) := by decide +kernel
theorem dX9_suggestion_2 : decode cX9_suggestion 2 = .ok (.iload_n 2, 1) := by decide +kernel
theorem dX9_suggestion_3 : decode cX9_suggestion 3 = .ok (.iconst 0, 1) := by decide +kernel
theorem dX9_suggestion_4 : decode cX9_suggestion 4 = .ok (.invokevirtual 144, 3) := by decide +kernel
theorem dX9_suggestion_7 : decode cX9_suggestion 7 = .ok (.ireturn, 1) := by decide +kernel
theorem dX9_endings_0 : decode cX9_endings 0 = .ok (.aload_n 0, 1) := by decide +kernel
theorem dX9_endings_1 : decode cX9_endings 1 = .ok (.iload_n 1, 1) := by decide +kernel
theorem dX9_endings_2 : decode cX9_endings 2 = .ok (.iconst 1, 1) := by decide +kernel
theorem dX9_endings_3 : decode cX9_endings 3 = .ok (.invokevirtual 140, 3) := by decide +kernel
theorem dX9_endings_6 : decode cX9_endings 6 = .ok (.ireturn, 1) := by decide +kernel
theorem dX9_ending_0 : decode cX9_ending 0 = .ok (.aload_n 0, 1) := by decide +kernel
theorem dX9_ending_1 : decode cX9_ending 1 = .ok (.iload_n 1, 1) := by decide +kernel
theorem dX9_ending_2 : decode cX9_ending 2 = .ok (.iload_n 2, 1) := by decide +kernel
theorem dX9_ending_3 : decode cX9_ending 3 = .ok (.iconst 1, 1) := by decide +kernel
theorem dX9_ending_4 : decode cX9_ending 4 = .ok (.invokevirtual 144, 3) := by decide +kernel
theorem dX9_ending_7 : decode cX9_ending 7 = .ok (.ireturn, 1) := by decide +kernel
theorem dX9_parting_0 : decode cX9_parting 0 = .ok (.iload_n 1, 1) := by decide +kernel
theorem dX9_parting_1 : decode cX9_parting 1 = .ok (.ifCond .lt 8, 3) := by decide +kernel
theorem dX9_parting_4 : decode cX9_parting 4 = .ok (.iload_n 1, 1) := by decide +kernel
theorem dX9_parting_5 : decode cX9_parting 5 = .ok (.iconst 3, 1) := by decide +kernel
theorem dX9_parting_6 : decode cX9_parting 6 = .ok (.if_icmp .le 6, 3) := by decide +kernel
theorem dX9_parting_9 : decode cX9_parting 9 = .ok (.bipush (-2), 2) := by decide +kernel
theorem dX9_parting_11 : decode cX9_parting 11 = .ok (.ireturn, 1) := by decide +kernel
theorem dX9_parting_12 : decode cX9_parting 12 = .ok (.aload_n 0, 1) := by decide +kernel
theorem dX9_parting_13 : decode cX9_parting 13 = .ok (.getfield 26, 3) := by decide +kernel
theorem dX9_parting_16 : decode cX9_parting 16 = .ok (.getfield 85, 3) := by decide +kernel
theorem dX9_parting_19 : decode cX9_parting 19 = .ok (.ifCond .eq 14, 3) := by decide +kernel
theorem dX9_parting_22 : decode cX9_parting 22 = .ok (.aload_n 0, 1) := by decide +kernel
theorem dX9_parting_23 : decode cX9_parting 23 = .ok (.getfield 10, 3) := by decide +kernel
theorem dX9_parting_26 : decode cX9_parting 26 = .ok (.getfield 74, 3) := by decide +kernel
theorem dX9_parting_29 : decode cX9_parting 29 = .ok (.iconst 2, 1) := by decide +kernel
theorem dX9_parting_30 : decode cX9_parting 30 = .ok (.if_icmp .ge 6, 3) := by decide +kernel
theorem dX9_parting_33 : decode cX9_parting 33 = .ok (.bipush (-3), 2) := by decide +kernel
theorem dX9_parting_35 : decode cX9_parting 35 = .ok (.ireturn, 1) := by decide +kernel
theorem dX9_parting_36 : decode cX9_parting 36 = .ok (.aload_n 0, 1) := by decide +kernel
theorem dX9_parting_37 : decode cX9_parting 37 = .ok (.getfield 56, 3) := by decide +kernel
theorem dX9_parting_40 : decode cX9_parting 40 = .ok (.aload_n 0, 1) := by decide +kernel
theorem dX9_parting_41 : decode cX9_parting 41 = .ok (.getfield 10, 3) := by decide +kernel
theorem dX9_parting_44 : decode cX9_parting 44 = .ok (.aload_n 0, 1) := by decide +kernel
theorem dX9_parting_45 : decode cX9_parting 45 = .ok (.getfield 26, 3) := by decide +kernel
theorem dX9_parting_48 : decode cX9_parting 48 = .ok (.aload_n 0, 1) := by decide +kernel
theorem dX9_parting_49 : decode cX9_parting 49 = .ok (.getfield 42, 3) := by decide +kernel
theorem dX9_parting_52 : decode cX9_parting 52 = .ok (.aload_n 0, 1) := by decide +kernel
theorem dX9_parting_53 : decode cX9_parting 53 = .ok (.getfield 19, 3) := by decide +kernel
theorem dX9_parting_56 : decode cX9_parting 56 = .ok (.getfield 109, 3) := by decide +kernel
theorem dX9_parting_59 : decode cX9_parting 59 = .ok (.iconst 4, 1) := by decide +kernel
theorem dX9_parting_60 : decode cX9_parting 60 = .ok (.iaload, 1) := by decide +kernel
theorem dX9_parting_61 : decode cX9_parting 61 = .ok (.invokevirtual 148, 3) := by decide +kernel
theorem dX9_parting_64 : decode cX9_parting 64 = .ok (.iload_n 1, 1) := by decide +kernel
theorem dX9_parting_65 : decode cX9_parting 65 = .ok (.tableswitch 51 0 2 #[27, 35, 43], 27) := by decide +kernel
theorem dX9_parting_92 : decode cX9_parting 92 = .ok (.aload_n 0, 1) := by decide +kernel
theorem dX9_parting_93 : decode cX9_parting 93 = .ok (.getfield 56, 3) := by decide +kernel
theorem dX9_parting_96 : decode cX9_parting 96 = .ok (.getfield 152, 3) := by decide +kernel
theorem dX9_parting_99 : decode cX9_parting 99 = .ok (.ireturn, 1) := by decide +kernel
theorem dX9_parting_100 : decode cX9_parting 100 = .ok (.aload_n 0, 1) := by decide +kernel
theorem dX9_parting_101 : decode cX9_parting 101 = .ok (.getfield 56, 3) := by decide +kernel
theorem dX9_parting_104 : decode cX9_parting 104 = .ok (.getfield 155, 3) := by decide +kernel
theorem dX9_parting_107 : decode cX9_parting 107 = .ok (.ireturn, 1) := by decide +kernel
theorem dX9_parting_108 : decode cX9_parting 108 = .ok (.aload_n 0, 1) := by decide +kernel
theorem dX9_parting_109 : decode cX9_parting 109 = .ok (.getfield 56, 3) := by decide +kernel
theorem dX9_parting_112 : decode cX9_parting 112 = .ok (.getfield 158, 3) := by decide +kernel
theorem dX9_parting_115 : decode cX9_parting 115 = .ok (.ireturn, 1) := by decide +kernel
theorem dX9_parting_116 : decode cX9_parting 116 = .ok (.aload_n 0, 1) := by decide +kernel
theorem dX9_parting_117 : decode cX9_parting 117 = .ok (.getfield 56, 3) := by decide +kernel
theorem dX9_parting_120 : decode cX9_parting 120 = .ok (.getfield 161, 3) := by decide +kernel
theorem dX9_parting_123 : decode cX9_parting 123 = .ok (.ireturn, 1) := by decide +kernel
theorem dX9_token_0 : decode cX9_token 0 = .ok (.aload_n 0, 1) := by decide +kernel
theorem dX9_token_1 : decode cX9_token 1 = .ok (.getfield 10, 3) := by decide +kernel
theorem dX9_token_4 : decode cX9_token 4 = .ok (.getfield 74, 3) := by decide +kernel
theorem dX9_token_7 : decode cX9_token 7 = .ok (.ifCond .ne 6, 3) := by decide +kernel
theorem dX9_token_10 : decode cX9_token 10 = .ok (.bipush (-2), 2) := by decide +kernel
theorem dX9_token_12 : decode cX9_token 12 = .ok (.ireturn, 1) := by decide +kernel
theorem dX9_token_13 : decode cX9_token 13 = .ok (.aload_n 0, 1) := by decide +kernel
theorem dX9_token_14 : decode cX9_token 14 = .ok (.getfield 33, 3) := by decide +kernel
theorem dX9_token_17 : decode cX9_token 17 = .ok (.aload_n 0, 1) := by decide +kernel
theorem dX9_token_18 : decode cX9_token 18 = .ok (.getfield 10, 3) := by decide +kernel
theorem dX9_token_21 : decode cX9_token 21 = .ok (.invokevirtual 164, 3) := by decide +kernel
theorem dX9_token_24 : decode cX9_token 24 = .ok (.ifCond .ne 6, 3) := by decide +kernel
theorem dX9_token_27 : decode cX9_token 27 = .ok (.bipush (-4), 2) := by decide +kernel
theorem dX9_token_29 : decode cX9_token 29 = .ok (.ireturn, 1) := by decide +kernel
theorem dX9_token_30 : decode cX9_token 30 = .ok (.aload_n 0, 1) := by decide +kernel
theorem dX9_token_31 : decode cX9_token 31 = .ok (.getfield 10, 3) := by decide +kernel
theorem dX9_token_34 : decode cX9_token 34 = .ok (.iconst 0, 1) := by decide +kernel
theorem dX9_token_35 : decode cX9_token 35 = .ok (.putfield 74, 3) := by decide +kernel
theorem dX9_token_38 : decode cX9_token 38 = .ok (.aload_n 0, 1) := by decide +kernel
theorem dX9_token_39 : decode cX9_token 39 = .ok (.getfield 33, 3) := by decide +kernel
theorem dX9_token_42 : decode cX9_token 42 = .ok (.getfield 166, 3) := by decide +kernel
theorem dX9_token_45 : decode cX9_token 45 = .ok (.ireturn, 1) := by decide +kernel
theorem dX9_line_0 : decode cX9_line 0 = .ok (.aload_n 0, 1) := by decide +kernel
theorem dX9_line_1 : decode cX9_line 1 = .ok (.getfield 33, 3) := by decide +kernel
theorem dX9_line_4 : decode cX9_line 4 = .ok (.getfield 166, 3) := by decide +kernel
theorem dX9_line_7 : decode cX9_line 7 = .ok (.istore_n 1, 1) := by decide +kernel
theorem dX9_line_8 : decode cX9_line 8 = .ok (.aload_n 0, 1) := by decide +kernel
theorem dX9_line_9 : decode cX9_line 9 = .ok (.getfield 33, 3) := by decide +kernel
theorem dX9_line_12 : decode cX9_line 12 = .ok (.iconst 0, 1) := by decide +kernel
theorem dX9_line_13 : decode cX9_line 13 = .ok (.putfield 166, 3) := by decide +kernel
theorem dX9_line_16 : decode cX9_line 16 = .ok (.iload_n 1, 1) := by decide +kernel
theorem dX9_line_17 : decode cX9_line 17 = .ok (.ireturn, 1) := by decide +kernel
theorem dX9_pair_0 : decode cX9_pair 0 = .ok (.aload_n 0, 1) := by decide +kernel
theorem dX9_pair_1 : decode cX9_pair 1 = .ok (.getfield 26, 3) := by decide +kernel
theorem dX9_pair_4 : decode cX9_pair 4 = .ok (.iload_n 1, 1) := by decide +kernel
theorem dX9_pair_5 : decode cX9_pair 5 = .ok (.invokevirtual 91, 3) := by decide +kernel
theorem dX9_pair_8 : decode cX9_pair 8 = .ok (.ifCond .eq 14, 3) := by decide +kernel
theorem dX9_pair_11 : decode cX9_pair 11 = .ok (.aload_n 0, 1) := by decide +kernel
theorem dX9_pair_12 : decode cX9_pair 12 = .ok (.getfield 26, 3) := by decide +kernel
theorem dX9_pair_15 : decode cX9_pair 15 = .ok (.iload_n 2, 1) := by decide +kernel
theorem dX9_pair_16 : decode cX9_pair 16 = .ok (.invokevirtual 91, 3) := by decide +kernel
theorem dX9_pair_19 : decode cX9_pair 19 = .ok (.ifCond .ne 5, 3) := by decide +kernel
theorem dX9_pair_22 : decode cX9_pair 22 = .ok (.iconst (-1), 1) := by decide +kernel
theorem dX9_pair_23 : decode cX9_pair 23 = .ok (.ireturn, 1) := by decide +kernel
theorem dX9_pair_24 : decode cX9_pair 24 = .ok (.aload_n 0, 1) := by decide +kernel
theorem dX9_pair_25 : decode cX9_pair 25 = .ok (.getfield 26, 3) := by decide +kernel
theorem dX9_pair_28 : decode cX9_pair 28 = .ok (.iload_n 1, 1) := by decide +kernel
theorem dX9_pair_29 : decode cX9_pair 29 = .ok (.iload_n 2, 1) := by decide +kernel
theorem dX9_pair_30 : decode cX9_pair 30 = .ok (.iload_n 3, 1) := by decide +kernel
theorem dX9_pair_31 : decode cX9_pair 31 = .ok (.invokevirtual 167, 3) := by decide +kernel
theorem dX9_pair_34 : decode cX9_pair 34 = .ok (.ifCond .eq 7, 3) := by decide +kernel
theorem dX9_pair_37 : decode cX9_pair 37 = .ok (.iconst 1, 1) := by decide +kernel
theorem dX9_pair_38 : decode cX9_pair 38 = .ok (.goto 4, 3) := by decide +kernel
theorem dX9_pair_41 : decode cX9_pair 41 = .ok (.iconst 0, 1) := by decide +kernel
theorem dX9_pair_42 : decode cX9_pair 42 = .ok (.ireturn, 1) := by decide +kernel
theorem dX9_chosen_0 : decode cX9_chosen 0 = .ok (.iload_n 1, 1) := by decide +kernel
theorem dX9_chosen_1 : decode cX9_chosen 1 = .ok (.invokestatic 171, 3) := by decide +kernel
theorem dX9_chosen_4 : decode cX9_chosen 4 = .ok (.ifCond .ne 6, 3) := by decide +kernel
theorem dX9_chosen_7 : decode cX9_chosen 7 = .ok (.bipush (-2), 2) := by decide +kernel
theorem dX9_chosen_9 : decode cX9_chosen 9 = .ok (.ireturn, 1) := by decide +kernel
theorem dX9_chosen_10 : decode cX9_chosen 10 = .ok (.iload_n 2, 1) := by decide +kernel
theorem dX9_chosen_11 : decode cX9_chosen 11 = .ok (.iconst (-1), 1) := by decide +kernel
theorem dX9_chosen_12 : decode cX9_chosen 12 = .ok (.if_icmp .lt 14, 3) := by decide +kernel
theorem dX9_chosen_15 : decode cX9_chosen 15 = .ok (.iload_n 2, 1) := by decide +kernel
theorem dX9_chosen_16 : decode cX9_chosen 16 = .ok (.aload_n 0, 1) := by decide +kernel
theorem dX9_chosen_17 : decode cX9_chosen 17 = .ok (.getfield 33, 3) := by decide +kernel
theorem dX9_chosen_20 : decode cX9_chosen 20 = .ok (.getfield 166, 3) := by decide +kernel
theorem dX9_chosen_23 : decode cX9_chosen 23 = .ok (.if_icmp .lt 5, 3) := by decide +kernel
theorem dX9_chosen_26 : decode cX9_chosen 26 = .ok (.iconst (-1), 1) := by decide +kernel
theorem dX9_chosen_27 : decode cX9_chosen 27 = .ok (.ireturn, 1) := by decide +kernel
theorem dX9_chosen_28 : decode cX9_chosen 28 = .ok (.aload_n 0, 1) := by decide +kernel
theorem dX9_chosen_29 : decode cX9_chosen 29 = .ok (.getfield 63, 3) := by decide +kernel
theorem dX9_chosen_32 : decode cX9_chosen 32 = .ok (.aload_n 0, 1) := by decide +kernel
theorem dX9_chosen_33 : decode cX9_chosen 33 = .ok (.getfield 33, 3) := by decide +kernel
theorem dX9_chosen_36 : decode cX9_chosen 36 = .ok (.aload_n 0, 1) := by decide +kernel
theorem dX9_chosen_37 : decode cX9_chosen 37 = .ok (.getfield 26, 3) := by decide +kernel
theorem dX9_chosen_40 : decode cX9_chosen 40 = .ok (.aload_n 0, 1) := by decide +kernel
theorem dX9_chosen_41 : decode cX9_chosen 41 = .ok (.getfield 42, 3) := by decide +kernel
theorem dX9_chosen_44 : decode cX9_chosen 44 = .ok (.iload_n 1, 1) := by decide +kernel
theorem dX9_chosen_45 : decode cX9_chosen 45 = .ok (.invokevirtual 174, 3) := by decide +kernel
theorem dX9_chosen_48 : decode cX9_chosen 48 = .ok (.aload_n 0, 1) := by decide +kernel
theorem dX9_chosen_49 : decode cX9_chosen 49 = .ok (.getfield 63, 3) := by decide +kernel
theorem dX9_chosen_52 : decode cX9_chosen 52 = .ok (.aload_n 0, 1) := by decide +kernel
theorem dX9_chosen_53 : decode cX9_chosen 53 = .ok (.getfield 33, 3) := by decide +kernel
theorem dX9_chosen_56 : decode cX9_chosen 56 = .ok (.getfield 166, 3) := by decide +kernel
theorem dX9_chosen_59 : decode cX9_chosen 59 = .ok (.aload_n 0, 1) := by decide +kernel
theorem dX9_chosen_60 : decode cX9_chosen 60 = .ok (.getfield 26, 3) := by decide +kernel
theorem dX9_chosen_63 : decode cX9_chosen 63 = .ok (.aload_n 0, 1) := by decide +kernel
theorem dX9_chosen_64 : decode cX9_chosen 64 = .ok (.getfield 19, 3) := by decide +kernel
theorem dX9_chosen_67 : decode cX9_chosen 67 = .ok (.getfield 109, 3) := by decide +kernel
theorem dX9_chosen_70 : decode cX9_chosen 70 = .ok (.iconst 5, 1) := by decide +kernel
theorem dX9_chosen_71 : decode cX9_chosen 71 = .ok (.iaload, 1) := by decide +kernel
theorem dX9_chosen_72 : decode cX9_chosen 72 = .ok (.invokevirtual 177, 3) := by decide +kernel
theorem dX9_chosen_75 : decode cX9_chosen 75 = .ok (.istore_n 3, 1) := by decide +kernel
theorem dX9_chosen_76 : decode cX9_chosen 76 = .ok (.iload_n 3, 1) := by decide +kernel
theorem dX9_chosen_77 : decode cX9_chosen 77 = .ok (.ldc 181, 2) := by decide +kernel
theorem dX9_chosen_79 : decode cX9_chosen 79 = .ok (.if_icmp .lt 6, 3) := by decide +kernel
theorem dX9_chosen_82 : decode cX9_chosen 82 = .ok (.bipush (-3), 2) := by decide +kernel
theorem dX9_chosen_84 : decode cX9_chosen 84 = .ok (.ireturn, 1) := by decide +kernel
theorem dX9_chosen_85 : decode cX9_chosen 85 = .ok (.iload_n 2, 1) := by decide +kernel
theorem dX9_chosen_86 : decode cX9_chosen 86 = .ok (.iconst (-1), 1) := by decide +kernel
theorem dX9_chosen_87 : decode cX9_chosen 87 = .ok (.if_icmp .ne 7, 3) := by decide +kernel
theorem dX9_chosen_90 : decode cX9_chosen 90 = .ok (.iload_n 3, 1) := by decide +kernel
theorem dX9_chosen_91 : decode cX9_chosen 91 = .ok (.goto 12, 3) := by decide +kernel
theorem dX9_chosen_94 : decode cX9_chosen 94 = .ok (.aload_n 0, 1) := by decide +kernel
theorem dX9_chosen_95 : decode cX9_chosen 95 = .ok (.getfield 63, 3) := by decide +kernel
theorem dX9_chosen_98 : decode cX9_chosen 98 = .ok (.getfield 182, 3) := by decide +kernel
theorem dX9_chosen_101 : decode cX9_chosen 101 = .ok (.iload_n 2, 1) := by decide +kernel
theorem dX9_chosen_102 : decode cX9_chosen 102 = .ok (.iaload, 1) := by decide +kernel
theorem dX9_chosen_103 : decode cX9_chosen 103 = .ok (.ireturn, 1) := by decide +kernel
theorem dX9_share_0 : decode cX9_share 0 = .ok (.aload_n 0, 1) := by decide +kernel
theorem dX9_share_1 : decode cX9_share 1 = .ok (.getfield 26, 3) := by decide +kernel
theorem dX9_share_4 : decode cX9_share 4 = .ok (.iload_n 1, 1) := by decide +kernel
theorem dX9_share_5 : decode cX9_share 5 = .ok (.invokevirtual 91, 3) := by decide +kernel
theorem dX9_share_8 : decode cX9_share 8 = .ok (.ifCond .ne 5, 3) := by decide +kernel
theorem dX9_share_11 : decode cX9_share 11 = .ok (.iconst (-1), 1) := by decide +kernel
theorem dX9_share_12 : decode cX9_share 12 = .ok (.ireturn, 1) := by decide +kernel
theorem dX9_share_13 : decode cX9_share 13 = .ok (.aload_n 0, 1) := by decide +kernel
theorem dX9_share_14 : decode cX9_share 14 = .ok (.getfield 10, 3) := by decide +kernel
theorem dX9_share_17 : decode cX9_share 17 = .ok (.getfield 74, 3) := by decide +kernel
theorem dX9_share_20 : decode cX9_share 20 = .ok (.ifCond .ne 13, 3) := by decide +kernel
theorem dX9_share_23 : decode cX9_share 23 = .ok (.new 185, 3) := by decide +kernel
theorem dX9_share_26 : decode cX9_share 26 = .ok (.dup, 1) := by decide +kernel
theorem dX9_share_27 : decode cX9_share 27 = .ok (.ldc 187, 2) := by decide +kernel
theorem dX9_share_29 : decode cX9_share 29 = .ok (.invokespecial 189, 3) := by decide +kernel
theorem dX9_share_32 : decode cX9_share 32 = .ok (.athrow, 1) := by decide +kernel
theorem dX9_share_33 : decode cX9_share 33 = .ok (.sipush 1000, 3) := by decide +kernel
theorem dX9_share_36 : decode cX9_share 36 = .ok (.aload_n 0, 1) := by decide +kernel
theorem dX9_share_37 : decode cX9_share 37 = .ok (.iload_n 1, 1) := by decide +kernel
theorem dX9_share_38 : decode cX9_share 38 = .ok (.invokevirtual 116, 3) := by decide +kernel
theorem dX9_share_41 : decode cX9_share 41 = .ok (.imul, 1) := by decide +kernel
theorem dX9_share_42 : decode cX9_share 42 = .ok (.aload_n 0, 1) := by decide +kernel
theorem dX9_share_43 : decode cX9_share 43 = .ok (.getfield 10, 3) := by decide +kernel
theorem dX9_share_46 : decode cX9_share 46 = .ok (.getfield 74, 3) := by decide +kernel
theorem dX9_share_49 : decode cX9_share 49 = .ok (.idiv, 1) := by decide +kernel
theorem dX9_share_50 : decode cX9_share 50 = .ok (.ireturn, 1) := by decide +kernel
theorem dX9_isLetter_0 : decode cX9_isLetter 0 = .ok (.iload_n 0, 1) := by decide +kernel
theorem dX9_isLetter_1 : decode cX9_isLetter 1 = .ok (.ifCond .lt 13, 3) := by decide +kernel
theorem dX9_isLetter_4 : decode cX9_isLetter 4 = .ok (.iload_n 0, 1) := by decide +kernel
theorem dX9_isLetter_5 : decode cX9_isLetter 5 = .ok (.bipush 26, 2) := by decide +kernel
theorem dX9_isLetter_7 : decode cX9_isLetter 7 = .ok (.if_icmp .ge 7, 3) := by decide +kernel
theorem dX9_isLetter_10 : decode cX9_isLetter 10 = .ok (.iconst 1, 1) := by decide +kernel
theorem dX9_isLetter_11 : decode cX9_isLetter 11 = .ok (.goto 4, 3) := by decide +kernel
theorem dX9_isLetter_14 : decode cX9_isLetter 14 = .ok (.iconst 0, 1) := by decide +kernel
theorem dX9_isLetter_15 : decode cX9_isLetter 15 = .ok (.ireturn, 1) := by decide +kernel
theorem dX9_isCount_0 : decode cX9_isCount 0 = .ok (.iload_n 0, 1) := by decide +kernel
theorem dX9_isCount_1 : decode cX9_isCount 1 = .ok (.iconst 1, 1) := by decide +kernel
theorem dX9_isCount_2 : decode cX9_isCount 2 = .ok (.if_icmp .lt 14, 3) := by decide +kernel
theorem dX9_isCount_5 : decode cX9_isCount 5 = .ok (.iload_n 0, 1) := by decide +kernel
theorem dX9_isCount_6 : decode cX9_isCount 6 = .ok (.sipush 1000, 3) := by decide +kernel
theorem dX9_isCount_9 : decode cX9_isCount 9 = .ok (.if_icmp .gt 7, 3) := by decide +kernel
theorem dX9_isCount_12 : decode cX9_isCount 12 = .ok (.iconst 1, 1) := by decide +kernel
theorem dX9_isCount_13 : decode cX9_isCount 13 = .ok (.goto 4, 3) := by decide +kernel
theorem dX9_isCount_16 : decode cX9_isCount 16 = .ok (.iconst 0, 1) := by decide +kernel
theorem dX9_isCount_17 : decode cX9_isCount 17 = .ok (.ireturn, 1) := by decide +kernel
theorem dX9_isLimit_0 : decode cX9_isLimit 0 = .ok (.iload_n 0, 1) := by decide +kernel
theorem dX9_isLimit_1 : decode cX9_isLimit 1 = .ok (.ifCond .lt 13, 3) := by decide +kernel
theorem dX9_isLimit_4 : decode cX9_isLimit 4 = .ok (.iload_n 0, 1) := by decide +kernel
theorem dX9_isLimit_5 : decode cX9_isLimit 5 = .ok (.bipush 50, 2) := by decide +kernel
theorem dX9_isLimit_7 : decode cX9_isLimit 7 = .ok (.if_icmp .gt 7, 3) := by decide +kernel
theorem dX9_isLimit_10 : decode cX9_isLimit 10 = .ok (.iconst 1, 1) := by decide +kernel
theorem dX9_isLimit_11 : decode cX9_isLimit 11 = .ok (.goto 4, 3) := by decide +kernel
theorem dX9_isLimit_14 : decode cX9_isLimit 14 = .ok (.iconst 0, 1) := by decide +kernel
theorem dX9_isLimit_15 : decode cX9_isLimit 15 = .ok (.ireturn, 1) := by decide +kernel
theorem dX9_priceOfWord_0 : decode cX9_priceOfWord 0 = .ok (.aload_n 0, 1) := by decide +kernel
theorem dX9_priceOfWord_1 : decode cX9_priceOfWord 1 = .ok (.getfield 42, 3) := by decide +kernel
theorem dX9_priceOfWord_4 : decode cX9_priceOfWord 4 = .ok (.aload_n 0, 1) := by decide +kernel
theorem dX9_priceOfWord_5 : decode cX9_priceOfWord 5 = .ok (.getfield 10, 3) := by decide +kernel
theorem dX9_priceOfWord_8 : decode cX9_priceOfWord 8 = .ok (.aload_n 0, 1) := by decide +kernel
theorem dX9_priceOfWord_9 : decode cX9_priceOfWord 9 = .ok (.getfield 26, 3) := by decide +kernel
theorem dX9_priceOfWord_12 : decode cX9_priceOfWord 12 = .ok (.getfield 98, 3) := by decide +kernel
theorem dX9_priceOfWord_15 : decode cX9_priceOfWord 15 = .ok (.iload_n 1, 1) := by decide +kernel
theorem dX9_priceOfWord_16 : decode cX9_priceOfWord 16 = .ok (.aaload, 1) := by decide +kernel
theorem dX9_priceOfWord_17 : decode cX9_priceOfWord 17 = .ok (.invokevirtual 119, 3) := by decide +kernel
theorem dX9_priceOfWord_20 : decode cX9_priceOfWord 20 = .ok (.ireturn, 1) := by decide +kernel
theorem dX9_findEdits_0 : decode cX9_findEdits 0 = .ok (.aload_n 0, 1) := by decide +kernel
theorem dX9_findEdits_1 : decode cX9_findEdits 1 = .ok (.getfield 42, 3) := by decide +kernel
theorem dX9_findEdits_4 : decode cX9_findEdits 4 = .ok (.aload_n 0, 1) := by decide +kernel
theorem dX9_findEdits_5 : decode cX9_findEdits 5 = .ok (.getfield 10, 3) := by decide +kernel
theorem dX9_findEdits_8 : decode cX9_findEdits 8 = .ok (.aload_n 0, 1) := by decide +kernel
theorem dX9_findEdits_9 : decode cX9_findEdits 9 = .ok (.getfield 26, 3) := by decide +kernel
theorem dX9_findEdits_12 : decode cX9_findEdits 12 = .ok (.getfield 98, 3) := by decide +kernel
theorem dX9_findEdits_15 : decode cX9_findEdits 15 = .ok (.iload_n 1, 1) := by decide +kernel
theorem dX9_findEdits_16 : decode cX9_findEdits 16 = .ok (.aaload, 1) := by decide +kernel
theorem dX9_findEdits_17 : decode cX9_findEdits 17 = .ok (.invokevirtual 119, 3) := by decide +kernel
theorem dX9_findEdits_20 : decode cX9_findEdits 20 = .ok (.pop, 1) := by decide +kernel
theorem dX9_findEdits_21 : decode cX9_findEdits 21 = .ok (.aload_n 0, 1) := by decide +kernel
theorem dX9_findEdits_22 : decode cX9_findEdits 22 = .ok (.getfield 42, 3) := by decide +kernel
theorem dX9_findEdits_25 : decode cX9_findEdits 25 = .ok (.invokevirtual 192, 3) := by decide +kernel
theorem dX9_findEdits_28 : decode cX9_findEdits 28 = .ok (.return_, 1) := by decide +kernel
theorem dX9_howMany_0 : decode cX9_howMany 0 = .ok (.iload_n 1, 1) := by decide +kernel
theorem dX9_howMany_1 : decode cX9_howMany 1 = .ok (.invokestatic 171, 3) := by decide +kernel
theorem dX9_howMany_4 : decode cX9_howMany 4 = .ok (.ifCond .ne 6, 3) := by decide +kernel
theorem dX9_howMany_7 : decode cX9_howMany 7 = .ok (.bipush (-2), 2) := by decide +kernel
theorem dX9_howMany_9 : decode cX9_howMany 9 = .ok (.ireturn, 1) := by decide +kernel
theorem dX9_howMany_10 : decode cX9_howMany 10 = .ok (.aload_n 0, 1) := by decide +kernel
theorem dX9_howMany_11 : decode cX9_howMany 11 = .ok (.iload_n 1, 1) := by decide +kernel
theorem dX9_howMany_12 : decode cX9_howMany 12 = .ok (.iload_n 2, 1) := by decide +kernel
theorem dX9_howMany_13 : decode cX9_howMany 13 = .ok (.invokevirtual 195, 3) := by decide +kernel
theorem dX9_howMany_16 : decode cX9_howMany 16 = .ok (.aload_n 0, 1) := by decide +kernel
theorem dX9_howMany_17 : decode cX9_howMany 17 = .ok (.getfield 49, 3) := by decide +kernel
theorem dX9_howMany_20 : decode cX9_howMany 20 = .ok (.getfield 199, 3) := by decide +kernel
theorem dX9_howMany_23 : decode cX9_howMany 23 = .ok (.ireturn, 1) := by decide +kernel
theorem dX9_rankedWord_0 : decode cX9_rankedWord 0 = .ok (.iload_n 1, 1) := by decide +kernel
theorem dX9_rankedWord_1 : decode cX9_rankedWord 1 = .ok (.invokestatic 171, 3) := by decide +kernel
theorem dX9_rankedWord_4 : decode cX9_rankedWord 4 = .ok (.ifCond .ne 6, 3) := by decide +kernel
theorem dX9_rankedWord_7 : decode cX9_rankedWord 7 = .ok (.bipush (-2), 2) := by decide +kernel
theorem dX9_rankedWord_9 : decode cX9_rankedWord 9 = .ok (.ireturn, 1) := by decide +kernel
theorem dX9_rankedWord_10 : decode cX9_rankedWord 10 = .ok (.aload_n 0, 1) := by decide +kernel
theorem dX9_rankedWord_11 : decode cX9_rankedWord 11 = .ok (.iload_n 1, 1) := by decide +kernel
theorem dX9_rankedWord_12 : decode cX9_rankedWord 12 = .ok (.iload_n 3, 1) := by decide +kernel
theorem dX9_rankedWord_13 : decode cX9_rankedWord 13 = .ok (.invokevirtual 195, 3) := by decide +kernel
theorem dX9_rankedWord_16 : decode cX9_rankedWord 16 = .ok (.iload_n 2, 1) := by decide +kernel
theorem dX9_rankedWord_17 : decode cX9_rankedWord 17 = .ok (.ifCond .lt 14, 3) := by decide +kernel
theorem dX9_rankedWord_20 : decode cX9_rankedWord 20 = .ok (.iload_n 2, 1) := by decide +kernel
theorem dX9_rankedWord_21 : decode cX9_rankedWord 21 = .ok (.aload_n 0, 1) := by decide +kernel
theorem dX9_rankedWord_22 : decode cX9_rankedWord 22 = .ok (.getfield 49, 3) := by decide +kernel
theorem dX9_rankedWord_25 : decode cX9_rankedWord 25 = .ok (.getfield 199, 3) := by decide +kernel
theorem dX9_rankedWord_28 : decode cX9_rankedWord 28 = .ok (.if_icmp .lt 5, 3) := by decide +kernel
theorem dX9_rankedWord_31 : decode cX9_rankedWord 31 = .ok (.iconst (-1), 1) := by decide +kernel
theorem dX9_rankedWord_32 : decode cX9_rankedWord 32 = .ok (.ireturn, 1) := by decide +kernel
theorem dX9_rankedWord_33 : decode cX9_rankedWord 33 = .ok (.aload_n 0, 1) := by decide +kernel
theorem dX9_rankedWord_34 : decode cX9_rankedWord 34 = .ok (.getfield 49, 3) := by decide +kernel
theorem dX9_rankedWord_37 : decode cX9_rankedWord 37 = .ok (.getfield 200, 3) := by decide +kernel
theorem dX9_rankedWord_40 : decode cX9_rankedWord 40 = .ok (.iload_n 2, 1) := by decide +kernel
theorem dX9_rankedWord_41 : decode cX9_rankedWord 41 = .ok (.iaload, 1) := by decide +kernel
theorem dX9_rankedWord_42 : decode cX9_rankedWord 42 = .ok (.ireturn, 1) := by decide +kernel
theorem dX9_rankWords_0 : decode cX9_rankWords 0 = .ok (.aload_n 0, 1) := by decide +kernel
theorem dX9_rankWords_1 : decode cX9_rankWords 1 = .ok (.getfield 49, 3) := by decide +kernel
theorem dX9_rankWords_4 : decode cX9_rankWords 4 = .ok (.iconst 0, 1) := by decide +kernel
theorem dX9_rankWords_5 : decode cX9_rankWords 5 = .ok (.putfield 199, 3) := by decide +kernel
theorem dX9_rankWords_8 : decode cX9_rankWords 8 = .ok (.iconst 0, 1) := by decide +kernel
theorem dX9_rankWords_9 : decode cX9_rankWords 9 = .ok (.istore_n 3, 1) := by decide +kernel
theorem dX9_rankWords_10 : decode cX9_rankWords 10 = .ok (.iload_n 3, 1) := by decide +kernel
theorem dX9_rankWords_11 : decode cX9_rankWords 11 = .ok (.aload_n 0, 1) := by decide +kernel
theorem dX9_rankWords_12 : decode cX9_rankWords 12 = .ok (.getfield 26, 3) := by decide +kernel
theorem dX9_rankWords_15 : decode cX9_rankWords 15 = .ok (.getfield 85, 3) := by decide +kernel
theorem dX9_rankWords_18 : decode cX9_rankWords 18 = .ok (.if_icmp .ge 88, 3) := by decide +kernel
theorem dX9_rankWords_21 : decode cX9_rankWords 21 = .ok (.aload_n 0, 1) := by decide +kernel
theorem dX9_rankWords_22 : decode cX9_rankWords 22 = .ok (.getfield 26, 3) := by decide +kernel
theorem dX9_rankWords_25 : decode cX9_rankWords 25 = .ok (.getfield 203, 3) := by decide +kernel
theorem dX9_rankWords_28 : decode cX9_rankWords 28 = .ok (.iload_n 3, 1) := by decide +kernel
theorem dX9_rankWords_29 : decode cX9_rankWords 29 = .ok (.iaload, 1) := by decide +kernel
theorem dX9_rankWords_30 : decode cX9_rankWords 30 = .ok (.istore 4, 2) := by decide +kernel
theorem dX9_rankWords_32 : decode cX9_rankWords 32 = .ok (.aload_n 0, 1) := by decide +kernel
theorem dX9_rankWords_33 : decode cX9_rankWords 33 = .ok (.getfield 42, 3) := by decide +kernel
theorem dX9_rankWords_36 : decode cX9_rankWords 36 = .ok (.aload_n 0, 1) := by decide +kernel
theorem dX9_rankWords_37 : decode cX9_rankWords 37 = .ok (.getfield 10, 3) := by decide +kernel
theorem dX9_rankWords_40 : decode cX9_rankWords 40 = .ok (.aload_n 0, 1) := by decide +kernel
theorem dX9_rankWords_41 : decode cX9_rankWords 41 = .ok (.getfield 26, 3) := by decide +kernel
theorem dX9_rankWords_44 : decode cX9_rankWords 44 = .ok (.getfield 98, 3) := by decide +kernel
theorem dX9_rankWords_47 : decode cX9_rankWords 47 = .ok (.iload 4, 2) := by decide +kernel
theorem dX9_rankWords_49 : decode cX9_rankWords 49 = .ok (.aaload, 1) := by decide +kernel
theorem dX9_rankWords_50 : decode cX9_rankWords 50 = .ok (.invokevirtual 119, 3) := by decide +kernel
theorem dX9_rankWords_53 : decode cX9_rankWords 53 = .ok (.istore 5, 2) := by decide +kernel
theorem dX9_rankWords_55 : decode cX9_rankWords 55 = .ok (.iload_n 2, 1) := by decide +kernel
theorem dX9_rankWords_56 : decode cX9_rankWords 56 = .ok (.ifCond .eq 13, 3) := by decide +kernel
theorem dX9_rankWords_59 : decode cX9_rankWords 59 = .ok (.aload_n 0, 1) := by decide +kernel
theorem dX9_rankWords_60 : decode cX9_rankWords 60 = .ok (.getfield 42, 3) := by decide +kernel
theorem dX9_rankWords_63 : decode cX9_rankWords 63 = .ok (.invokevirtual 123, 3) := by decide +kernel
theorem dX9_rankWords_66 : decode cX9_rankWords 66 = .ok (.goto 5, 3) := by decide +kernel
theorem dX9_rankWords_69 : decode cX9_rankWords 69 = .ok (.iload 5, 2) := by decide +kernel
theorem dX9_rankWords_71 : decode cX9_rankWords 71 = .ok (.istore 6, 2) := by decide +kernel
theorem dX9_rankWords_73 : decode cX9_rankWords 73 = .ok (.iload 6, 2) := by decide +kernel
theorem dX9_rankWords_75 : decode cX9_rankWords 75 = .ok (.iload_n 1, 1) := by decide +kernel
theorem dX9_rankWords_76 : decode cX9_rankWords 76 = .ok (.if_icmp .gt 24, 3) := by decide +kernel
theorem dX9_rankWords_79 : decode cX9_rankWords 79 = .ok (.aload_n 0, 1) := by decide +kernel
theorem dX9_rankWords_80 : decode cX9_rankWords 80 = .ok (.getfield 49, 3) := by decide +kernel
theorem dX9_rankWords_83 : decode cX9_rankWords 83 = .ok (.iload 4, 2) := by decide +kernel
theorem dX9_rankWords_85 : decode cX9_rankWords 85 = .ok (.iload 6, 2) := by decide +kernel
theorem dX9_rankWords_87 : decode cX9_rankWords 87 = .ok (.aload_n 0, 1) := by decide +kernel
theorem dX9_rankWords_88 : decode cX9_rankWords 88 = .ok (.getfield 26, 3) := by decide +kernel
theorem dX9_rankWords_91 : decode cX9_rankWords 91 = .ok (.getfield 94, 3) := by decide +kernel
theorem dX9_rankWords_94 : decode cX9_rankWords 94 = .ok (.iload 4, 2) := by decide +kernel
theorem dX9_rankWords_96 : decode cX9_rankWords 96 = .ok (.iaload, 1) := by decide +kernel
theorem dX9_rankWords_97 : decode cX9_rankWords 97 = .ok (.invokevirtual 206, 3) := by decide +kernel
theorem dX9_rankWords_100 : decode cX9_rankWords 100 = .ok (.iinc 3 1, 3) := by decide +kernel
theorem dX9_rankWords_103 : decode cX9_rankWords 103 = .ok (.goto (-93), 3) := by decide +kernel
theorem dX9_rankWords_106 : decode cX9_rankWords 106 = .ok (.return_, 1) := by decide +kernel
