theorem dX10_init_0 : decode cX10_init 0 = .ok (.aload_n 0, 1) := by decide +kernel
theorem dX10_init_1 : decode cX10_init 1 = .ok (.invokespecial 1, 3) := by decide +kernel
theorem dX10_init_4 : decode cX10_init 4 = .ok (.aload_n 0, 1) := by decide +kernel
theorem dX10_init_5 : decode cX10_init 5 = .ok (.bipush 12, 2) := by decide +kernel
theorem dX10_init_7 : decode cX10_init 7 = .ok (.newarray .int, 2) := by decide +kernel
theorem dX10_init_9 : decode cX10_init 9 = .ok (.putfield 7, 3) := by decide +kernel
theorem dX10_init_12 : decode cX10_init 12 = .ok (.aload_n 0, 1) := by decide +kernel
theorem dX10_init_13 : decode cX10_init 13 = .ok (.bipush 60, 2) := by decide +kernel
theorem dX10_init_15 : decode cX10_init 15 = .ok (.newarray .int, 2) := by decide +kernel
theorem dX10_init_17 : decode cX10_init 17 = .ok (.putfield 13, 3) := by decide +kernel
theorem dX10_init_20 : decode cX10_init 20 = .ok (.aload_n 0, 1) := by decide +kernel
theorem dX10_init_21 : decode cX10_init 21 = .ok (.sipush 720, 3) := by decide +kernel
theorem dX10_init_24 : decode cX10_init 24 = .ok (.newarray .int, 2) := by decide +kernel
theorem dX10_init_26 : decode cX10_init 26 = .ok (.putfield 16, 3) := by decide +kernel
theorem dX10_init_29 : decode cX10_init 29 = .ok (.aload_n 0, 1) := by decide +kernel
theorem dX10_init_30 : decode cX10_init 30 = .ok (.bipush 60, 2) := by decide +kernel
theorem dX10_init_32 : decode cX10_init 32 = .ok (.newarray .int, 2) := by decide +kernel
theorem dX10_init_34 : decode cX10_init 34 = .ok (.putfield 19, 3) := by decide +kernel
theorem dX10_init_37 : decode cX10_init 37 = .ok (.aload_n 0, 1) := by decide +kernel
theorem dX10_init_38 : decode cX10_init 38 = .ok (.bipush 6, 2) := by decide +kernel
theorem dX10_init_40 : decode cX10_init 40 = .ok (.newarray .int, 2) := by decide +kernel
theorem dX10_init_42 : decode cX10_init 42 = .ok (.putfield 22, 3) := by decide +kernel
theorem dX10_init_45 : decode cX10_init 45 = .ok (.aload_n 0, 1) := by decide +kernel
theorem dX10_init_46 : decode cX10_init 46 = .ok (.sipush 676, 3) := by decide +kernel
theorem dX10_init_49 : decode cX10_init 49 = .ok (.newarray .int, 2) := by decide +kernel
theorem dX10_init_51 : decode cX10_init 51 = .ok (.putfield 25, 3) := by decide +kernel
theorem dX10_init_54 : decode cX10_init 54 = .ok (.aload_n 0, 1) := by decide +kernel
theorem dX10_init_55 : decode cX10_init 55 = .ok (.bipush 6, 2) := by decide +kernel
theorem dX10_init_57 : decode cX10_init 57 = .ok (.newarray .int, 2) := by decide +kernel
theorem dX10_init_59 : decode cX10_init 59 = .ok (.putfield 28, 3) := by decide +kernel
theorem dX10_init_62 : decode cX10_init 62 = .ok (.aload_n 0, 1) := by decide +kernel
theorem dX10_init_63 : decode cX10_init 63 = .ok (.bipush 72, 2) := by decide +kernel
theorem dX10_init_65 : decode cX10_init 65 = .ok (.newarray .int, 2) := by decide +kernel
theorem dX10_init_67 : decode cX10_init 67 = .ok (.putfield 31, 3) := by decide +kernel
theorem dX10_init_70 : decode cX10_init 70 = .ok (.aload_n 0, 1) := by decide +kernel
theorem dX10_init_71 : decode cX10_init 71 = .ok (.sipush 3600, 3) := by decide +kernel
theorem dX10_init_74 : decode cX10_init 74 = .ok (.newarray .boolean, 2) := by decide +kernel
theorem dX10_init_76 : decode cX10_init 76 = .ok (.putfield 34, 3) := by decide +kernel
theorem dX10_init_79 : decode cX10_init 79 = .ok (.aload_n 0, 1) := by decide +kernel
theorem dX10_init_80 : decode cX10_init 80 = .ok (.sipush 169, 3) := by decide +kernel
theorem dX10_init_83 : decode cX10_init 83 = .ok (.newarray .int, 2) := by decide +kernel
theorem dX10_init_85 : decode cX10_init 85 = .ok (.putfield 38, 3) := by decide +kernel
theorem dX10_init_88 : decode cX10_init 88 = .ok (.aload_n 0, 1) := by decide +kernel
theorem dX10_init_89 : decode cX10_init 89 = .ok (.bipush 12, 2) := by decide +kernel
theorem dX10_init_91 : decode cX10_init 91 = .ok (.newarray .int, 2) := by decide +kernel
theorem dX10_init_93 : decode cX10_init 93 = .ok (.putfield 41, 3) := by decide +kernel
theorem dX10_init_96 : decode cX10_init 96 = .ok (.aload_n 0, 1) := by decide +kernel
theorem dX10_init_97 : decode cX10_init 97 = .ok (.bipush 24, 2) := by decide +kernel
theorem dX10_init_99 : decode cX10_init 99 = .ok (.newarray .int, 2) := by decide +kernel
theorem dX10_init_101 : decode cX10_init 101 = .ok (.putfield 44, 3) := by decide +kernel
theorem dX10_init_104 : decode cX10_init 104 = .ok (.aload_n 0, 1) := by decide +kernel
theorem dX10_init_105 : decode cX10_init 105 = .ok (.bipush 24, 2) := by decide +kernel
theorem dX10_init_107 : decode cX10_init 107 = .ok (.newarray .int, 2) := by decide +kernel
theorem dX10_init_109 : decode cX10_init 109 = .ok (.putfield 47, 3) := by decide +kernel
theorem dX10_init_112 : decode cX10_init 112 = .ok (.aload_n 0, 1) := by decide +kernel
theorem dX10_init_113 : decode cX10_init 113 = .ok (.bipush 60, 2) := by decide +kernel
theorem dX10_init_115 : decode cX10_init 115 = .ok (.newarray .int, 2) := by decide +kernel
theorem dX10_init_117 : decode cX10_init 117 = .ok (.putfield 50, 3) := by decide +kernel
theorem dX10_init_120 : decode cX10_init 120 = .ok (.aload_n 0, 1) := by decide +kernel
theorem dX10_init_121 : decode cX10_init 121 = .ok (.bipush 60, 2) := by decide +kernel
theorem dX10_init_123 : decode cX10_init 123 = .ok (.newarray .int, 2) := by decide +kernel
theorem dX10_init_125 : decode cX10_init 125 = .ok (.putfield 53, 3) := by decide +kernel
theorem dX10_init_128 : decode cX10_init 128 = .ok (.aload_n 0, 1) := by decide +kernel
theorem dX10_init_129 : decode cX10_init 129 = .ok (.sipush 360, 3) := by decide +kernel
theorem dX10_init_132 : decode cX10_init 132 = .ok (.newarray .int, 2) := by decide +kernel
theorem dX10_init_134 : decode cX10_init 134 = .ok (.putfield 56, 3) := by decide +kernel
theorem dX10_init_137 : decode cX10_init 137 = .ok (.aload_n 0, 1) := by decide +kernel
theorem dX10_init_138 : decode cX10_init 138 = .ok (.sipush 360, 3) := by decide +kernel
theorem dX10_init_141 : decode cX10_init 141 = .ok (.newarray .int, 2) := by decide +kernel
theorem dX10_init_143 : decode cX10_init 143 = .ok (.putfield 59, 3) := by decide +kernel
theorem dX10_init_146 : decode cX10_init 146 = .ok (.aload_n 0, 1) := by decide +kernel
theorem dX10_init_147 : decode cX10_init 147 = .ok (.getfield 22, 3) := by decide +kernel
theorem dX10_init_150 : decode cX10_init 150 = .ok (.iconst 0, 1) := by decide +kernel
theorem dX10_init_151 : decode cX10_init 151 = .ok (.iconst 2, 1) := by decide +kernel
theorem dX10_init_152 : decode cX10_init 152 = .ok (.iastore, 1) := by decide +kernel
theorem dX10_init_153 : decode cX10_init 153 = .ok (.aload_n 0, 1) := by decide +kernel
theorem dX10_init_154 : decode cX10_init 154 = .ok (.getfield 22, 3) := by decide +kernel
theorem dX10_init_157 : decode cX10_init 157 = .ok (.iconst 1, 1) := by decide +kernel
theorem dX10_init_158 : decode cX10_init 158 = .ok (.iconst 2, 1) := by decide +kernel
theorem dX10_init_159 : decode cX10_init 159 = .ok (.iastore, 1) := by decide +kernel
theorem dX10_init_160 : decode cX10_init 160 = .ok (.aload_n 0, 1) := by decide +kernel
theorem dX10_init_161 : decode cX10_init 161 = .ok (.getfield 22, 3) := by decide +kernel
theorem dX10_init_164 : decode cX10_init 164 = .ok (.iconst 2, 1) := by decide +kernel
theorem dX10_init_165 : decode cX10_init 165 = .ok (.iconst 3, 1) := by decide +kernel
theorem dX10_init_166 : decode cX10_init 166 = .ok (.iastore, 1) := by decide +kernel
theorem dX10_init_167 : decode cX10_init 167 = .ok (.aload_n 0, 1) := by decide +kernel
theorem dX10_init_168 : decode cX10_init 168 = .ok (.getfield 22, 3) := by decide +kernel
theorem dX10_init_171 : decode cX10_init 171 = .ok (.iconst 3, 1) := by decide +kernel
theorem dX10_init_172 : decode cX10_init 172 = .ok (.iconst 1, 1) := by decide +kernel
theorem dX10_init_173 : decode cX10_init 173 = .ok (.iastore, 1) := by decide +kernel
theorem dX10_init_174 : decode cX10_init 174 = .ok (.aload_n 0, 1) := by decide +kernel
theorem dX10_init_175 : decode cX10_init 175 = .ok (.getfield 22, 3) := by decide +kernel
theorem dX10_init_178 : decode cX10_init 178 = .ok (.iconst 4, 1) := by decide +kernel
theorem dX10_init_179 : decode cX10_init 179 = .ok (.iconst 5, 1) := by decide +kernel
theorem dX10_init_180 : decode cX10_init 180 = .ok (.iastore, 1) := by decide +kernel
theorem dX10_init_181 : decode cX10_init 181 = .ok (.aload_n 0, 1) := by decide +kernel
theorem dX10_init_182 : decode cX10_init 182 = .ok (.getfield 22, 3) := by decide +kernel
theorem dX10_init_185 : decode cX10_init 185 = .ok (.iconst 5, 1) := by decide +kernel
theorem dX10_init_186 : decode cX10_init 186 = .ok (.iconst 4, 1) := by decide +kernel
theorem dX10_init_187 : decode cX10_init 187 = .ok (.iastore, 1) := by decide +kernel
theorem dX10_init_188 : decode cX10_init 188 = .ok (.return_, 1) := by decide +kernel
theorem dX10_thrown_0 : decode cX10_thrown 0 = .ok (.aload_n 0, 1) := by decide +kernel
theorem dX10_thrown_1 : decode cX10_thrown 1 = .ok (.getfield 62, 3) := by decide +kernel
theorem dX10_thrown_4 : decode cX10_thrown 4 = .ok (.ireturn, 1) := by decide +kernel
theorem dX10_in_0 : decode cX10_in 0 = .ok (.iload_n 0, 1) := by decide +kernel
theorem dX10_in_1 : decode cX10_in 1 = .ok (.iload_n 1, 1) := by decide +kernel
theorem dX10_in_2 : decode cX10_in 2 = .ok (.if_icmp .lt 12, 3) := by decide +kernel
theorem dX10_in_5 : decode cX10_in 5 = .ok (.iload_n 0, 1) := by decide +kernel
theorem dX10_in_6 : decode cX10_in 6 = .ok (.iload_n 2, 1) := by decide +kernel
theorem dX10_in_7 : decode cX10_in 7 = .ok (.if_icmp .gt 7, 3) := by decide +kernel
theorem dX10_in_10 : decode cX10_in 10 = .ok (.iconst 1, 1) := by decide +kernel
theorem dX10_in_11 : decode cX10_in 11 = .ok (.goto 4, 3) := by decide +kernel
theorem dX10_in_14 : decode cX10_in 14 = .ok (.iconst 0, 1) := by decide +kernel
theorem dX10_in_15 : decode cX10_in 15 = .ok (.ireturn, 1) := by decide +kernel
theorem dX10_isWord_0 : decode cX10_isWord 0 = .ok (.iload_n 1, 1) := by decide +kernel
theorem dX10_isWord_1 : decode cX10_isWord 1 = .ok (.iconst 0, 1) := by decide +kernel
theorem dX10_isWord_2 : decode cX10_isWord 2 = .ok (.aload_n 0, 1) := by decide +kernel
theorem dX10_isWord_3 : decode cX10_isWord 3 = .ok (.getfield 66, 3) := by decide +kernel
theorem dX10_isWord_6 : decode cX10_isWord 6 = .ok (.iconst 1, 1) := by decide +kernel
theorem dX10_isWord_7 : decode cX10_isWord 7 = .ok (.isub, 1) := by decide +kernel
theorem dX10_isWord_8 : decode cX10_isWord 8 = .ok (.invokestatic 69, 3) := by decide +kernel
theorem dX10_isWord_11 : decode cX10_isWord 11 = .ok (.ireturn, 1) := by decide +kernel
theorem dX10_letter_0 : decode cX10_letter 0 = .ok (.aload_n 0, 1) := by decide +kernel
theorem dX10_letter_1 : decode cX10_letter 1 = .ok (.iconst 0, 1) := by decide +kernel
theorem dX10_letter_2 : decode cX10_letter 2 = .ok (.putfield 62, 3) := by decide +kernel
theorem dX10_letter_5 : decode cX10_letter 5 = .ok (.iload_n 1, 1) := by decide +kernel
theorem dX10_letter_6 : decode cX10_letter 6 = .ok (.iconst 0, 1) := by decide +kernel
theorem dX10_letter_7 : decode cX10_letter 7 = .ok (.bipush 25, 2) := by decide +kernel
theorem dX10_letter_9 : decode cX10_letter 9 = .ok (.invokestatic 69, 3) := by decide +kernel
theorem dX10_letter_12 : decode cX10_letter 12 = .ok (.ifCond .ne 5, 3) := by decide +kernel
theorem dX10_letter_15 : decode cX10_letter 15 = .ok (.iconst (-1), 1) := by decide +kernel
theorem dX10_letter_16 : decode cX10_letter 16 = .ok (.ireturn, 1) := by decide +kernel
theorem dX10_letter_17 : decode cX10_letter 17 = .ok (.aload_n 0, 1) := by decide +kernel
theorem dX10_letter_18 : decode cX10_letter 18 = .ok (.getfield 73, 3) := by decide +kernel
theorem dX10_letter_21 : decode cX10_letter 21 = .ok (.bipush 12, 2) := by decide +kernel
theorem dX10_letter_23 : decode cX10_letter 23 = .ok (.if_icmp .ne 6, 3) := by decide +kernel
theorem dX10_letter_26 : decode cX10_letter 26 = .ok (.bipush (-4), 2) := by decide +kernel
theorem dX10_letter_28 : decode cX10_letter 28 = .ok (.ireturn, 1) := by decide +kernel
theorem dX10_letter_29 : decode cX10_letter 29 = .ok (.aload_n 0, 1) := by decide +kernel
theorem dX10_letter_30 : decode cX10_letter 30 = .ok (.getfield 7, 3) := by decide +kernel
theorem dX10_letter_33 : decode cX10_letter 33 = .ok (.aload_n 0, 1) := by decide +kernel
theorem dX10_letter_34 : decode cX10_letter 34 = .ok (.getfield 73, 3) := by decide +kernel
theorem dX10_letter_37 : decode cX10_letter 37 = .ok (.iload_n 1, 1) := by decide +kernel
theorem dX10_letter_38 : decode cX10_letter 38 = .ok (.iastore, 1) := by decide +kernel
theorem dX10_letter_39 : decode cX10_letter 39 = .ok (.aload_n 0, 1) := by decide +kernel
theorem dX10_letter_40 : decode cX10_letter 40 = .ok (.dup, 1) := by decide +kernel
theorem dX10_letter_41 : decode cX10_letter 41 = .ok (.getfield 73, 3) := by decide +kernel
theorem dX10_letter_44 : decode cX10_letter 44 = .ok (.iconst 1, 1) := by decide +kernel
theorem dX10_letter_45 : decode cX10_letter 45 = .ok (.iadd, 1) := by decide +kernel
theorem dX10_letter_46 : decode cX10_letter 46 = .ok (.putfield 73, 3) := by decide +kernel
theorem dX10_letter_49 : decode cX10_letter 49 = .ok (.aload_n 0, 1) := by decide +kernel
theorem dX10_letter_50 : decode cX10_letter 50 = .ok (.getfield 73, 3) := by decide +kernel
theorem dX10_letter_53 : decode cX10_letter 53 = .ok (.ireturn, 1) := by decide +kernel
theorem dX10_clear_0 : decode cX10_clear 0 = .ok (.aload_n 0, 1) := by decide +kernel
theorem dX10_clear_1 : decode cX10_clear 1 = .ok (.iconst 0, 1) := by decide +kernel
theorem dX10_clear_2 : decode cX10_clear 2 = .ok (.putfield 62, 3) := by decide +kernel
theorem dX10_clear_5 : decode cX10_clear 5 = .ok (.aload_n 0, 1) := by decide +kernel
theorem dX10_clear_6 : decode cX10_clear 6 = .ok (.getfield 73, 3) := by decide +kernel
theorem dX10_clear_9 : decode cX10_clear 9 = .ok (.istore_n 1, 1) := by decide +kernel
theorem dX10_clear_10 : decode cX10_clear 10 = .ok (.aload_n 0, 1) := by decide +kernel
theorem dX10_clear_11 : decode cX10_clear 11 = .ok (.iconst 0, 1) := by decide +kernel
theorem dX10_clear_12 : decode cX10_clear 12 = .ok (.putfield 73, 3) := by decide +kernel
theorem dX10_clear_15 : decode cX10_clear 15 = .ok (.iload_n 1, 1) := by decide +kernel
theorem dX10_clear_16 : decode cX10_clear 16 = .ok (.ireturn, 1) := by decide +kernel
theorem dX10_word_0 : decode cX10_word 0 = .ok (.aload_n 0, 1) := by decide +kernel
theorem dX10_word_1 : decode cX10_word 1 = .ok (.iconst 0, 1) := by decide +kernel
theorem dX10_word_2 : decode cX10_word 2 = .ok (.putfield 62, 3) := by decide +kernel
theorem dX10_word_5 : decode cX10_word 5 = .ok (.iload_n 1, 1) := by decide +kernel
theorem dX10_word_6 : decode cX10_word 6 = .ok (.iconst 1, 1) := by decide +kernel
theorem dX10_word_7 : decode cX10_word 7 = .ok (.sipush 1000, 3) := by decide +kernel
theorem dX10_word_10 : decode cX10_word 10 = .ok (.invokestatic 69, 3) := by decide +kernel
theorem dX10_word_13 : decode cX10_word 13 = .ok (.ifCond .eq 10, 3) := by decide +kernel
theorem dX10_word_16 : decode cX10_word 16 = .ok (.aload_n 0, 1) := by decide +kernel
theorem dX10_word_17 : decode cX10_word 17 = .ok (.getfield 73, 3) := by decide +kernel
theorem dX10_word_20 : decode cX10_word 20 = .ok (.ifCond .ne 6, 3) := by decide +kernel
theorem dX10_word_23 : decode cX10_word 23 = .ok (.bipush (-2), 2) := by decide +kernel
theorem dX10_word_25 : decode cX10_word 25 = .ok (.ireturn, 1) := by decide +kernel
theorem dX10_word_26 : decode cX10_word 26 = .ok (.iconst 0, 1) := by decide +kernel
theorem dX10_word_27 : decode cX10_word 27 = .ok (.istore_n 2, 1) := by decide +kernel
theorem dX10_word_28 : decode cX10_word 28 = .ok (.iload_n 2, 1) := by decide +kernel
theorem dX10_word_29 : decode cX10_word 29 = .ok (.aload_n 0, 1) := by decide +kernel
theorem dX10_word_30 : decode cX10_word 30 = .ok (.getfield 66, 3) := by decide +kernel
theorem dX10_word_33 : decode cX10_word 33 = .ok (.if_icmp .ge 85, 3) := by decide +kernel
theorem dX10_word_36 : decode cX10_word 36 = .ok (.aload_n 0, 1) := by decide +kernel
theorem dX10_word_37 : decode cX10_word 37 = .ok (.getfield 13, 3) := by decide +kernel
theorem dX10_word_40 : decode cX10_word 40 = .ok (.iload_n 2, 1) := by decide +kernel
theorem dX10_word_41 : decode cX10_word 41 = .ok (.iaload, 1) := by decide +kernel
theorem dX10_word_42 : decode cX10_word 42 = .ok (.aload_n 0, 1) := by decide +kernel
theorem dX10_word_43 : decode cX10_word 43 = .ok (.getfield 73, 3) := by decide +kernel
theorem dX10_word_46 : decode cX10_word 46 = .ok (.if_icmp .ne 7, 3) := by decide +kernel
theorem dX10_word_49 : decode cX10_word 49 = .ok (.iconst 1, 1) := by decide +kernel
theorem dX10_word_50 : decode cX10_word 50 = .ok (.goto 4, 3) := by decide +kernel
theorem dX10_word_53 : decode cX10_word 53 = .ok (.iconst 0, 1) := by decide +kernel
theorem dX10_word_54 : decode cX10_word 54 = .ok (.istore_n 3, 1) := by decide +kernel
theorem dX10_word_55 : decode cX10_word 55 = .ok (.iconst 0, 1) := by decide +kernel
theorem dX10_word_56 : decode cX10_word 56 = .ok (.istore 4, 2) := by decide +kernel
theorem dX10_word_58 : decode cX10_word 58 = .ok (.iload 4, 2) := by decide +kernel
theorem dX10_word_60 : decode cX10_word 60 = .ok (.aload_n 0, 1) := by decide +kernel
theorem dX10_word_61 : decode cX10_word 61 = .ok (.getfield 73, 3) := by decide +kernel
theorem dX10_word_64 : decode cX10_word 64 = .ok (.if_icmp .ge 41, 3) := by decide +kernel
theorem dX10_word_67 : decode cX10_word 67 = .ok (.iload_n 3, 1) := by decide +kernel
theorem dX10_word_68 : decode cX10_word 68 = .ok (.ifCond .eq 37, 3) := by decide +kernel
theorem dX10_word_71 : decode cX10_word 71 = .ok (.aload_n 0, 1) := by decide +kernel
theorem dX10_word_72 : decode cX10_word 72 = .ok (.getfield 16, 3) := by decide +kernel
theorem dX10_word_75 : decode cX10_word 75 = .ok (.bipush 12, 2) := by decide +kernel
theorem dX10_word_77 : decode cX10_word 77 = .ok (.iload_n 2, 1) := by decide +kernel
theorem dX10_word_78 : decode cX10_word 78 = .ok (.imul, 1) := by decide +kernel
theorem dX10_word_79 : decode cX10_word 79 = .ok (.iload 4, 2) := by decide +kernel
theorem dX10_word_81 : decode cX10_word 81 = .ok (.iadd, 1) := by decide +kernel
theorem dX10_word_82 : decode cX10_word 82 = .ok (.iaload, 1) := by decide +kernel
theorem dX10_word_83 : decode cX10_word 83 = .ok (.aload_n 0, 1) := by decide +kernel
theorem dX10_word_84 : decode cX10_word 84 = .ok (.getfield 7, 3) := by decide +kernel
theorem dX10_word_87 : decode cX10_word 87 = .ok (.iload 4, 2) := by decide +kernel
theorem dX10_word_89 : decode cX10_word 89 = .ok (.iaload, 1) := by decide +kernel
theorem dX10_word_90 : decode cX10_word 90 = .ok (.if_icmp .ne 7, 3) := by decide +kernel
theorem dX10_word_93 : decode cX10_word 93 = .ok (.iconst 1, 1) := by decide +kernel
theorem dX10_word_94 : decode cX10_word 94 = .ok (.goto 4, 3) := by decide +kernel
theorem dX10_word_97 : decode cX10_word 97 = .ok (.iconst 0, 1) := by decide +kernel
theorem dX10_word_98 : decode cX10_word 98 = .ok (.istore_n 3, 1) := by decide +kernel
theorem dX10_word_99 : decode cX10_word 99 = .ok (.iinc 4 1, 3) := by decide +kernel
theorem dX10_word_102 : decode cX10_word 102 = .ok (.goto (-44), 3) := by decide +kernel
theorem dX10_word_105 : decode cX10_word 105 = .ok (.iload_n 3, 1) := by decide +kernel
theorem dX10_word_106 : decode cX10_word 106 = .ok (.ifCond .eq 6, 3) := by decide +kernel
theorem dX10_word_109 : decode cX10_word 109 = .ok (.bipush (-3), 2) := by decide +kernel
theorem dX10_word_111 : decode cX10_word 111 = .ok (.ireturn, 1) := by decide +kernel
theorem dX10_word_112 : decode cX10_word 112 = .ok (.iinc 2 1, 3) := by decide +kernel
theorem dX10_word_115 : decode cX10_word 115 = .ok (.goto (-87), 3) := by decide +kernel
theorem dX10_word_118 : decode cX10_word 118 = .ok (.aload_n 0, 1) := by decide +kernel
theorem dX10_word_119 : decode cX10_word 119 = .ok (.getfield 66, 3) := by decide +kernel
theorem dX10_word_122 : decode cX10_word 122 = .ok (.bipush 60, 2) := by decide +kernel
theorem dX10_word_124 : decode cX10_word 124 = .ok (.if_icmp .ne 6, 3) := by decide +kernel
theorem dX10_word_127 : decode cX10_word 127 = .ok (.bipush (-4), 2) := by decide +kernel
theorem dX10_word_129 : decode cX10_word 129 = .ok (.ireturn, 1) := by decide +kernel
theorem dX10_word_130 : decode cX10_word 130 = .ok (.aload_n 0, 1) := by decide +kernel
theorem dX10_word_131 : decode cX10_word 131 = .ok (.getfield 13, 3) := by decide +kernel
theorem dX10_word_134 : decode cX10_word 134 = .ok (.aload_n 0, 1) := by decide +kernel
theorem dX10_word_135 : decode cX10_word 135 = .ok (.getfield 66, 3) := by decide +kernel
theorem dX10_word_138 : decode cX10_word 138 = .ok (.aload_n 0, 1) := by decide +kernel
theorem dX10_word_139 : decode cX10_word 139 = .ok (.getfield 73, 3) := by decide +kernel
theorem dX10_word_142 : decode cX10_word 142 = .ok (.iastore, 1) := by decide +kernel
theorem dX10_word_143 : decode cX10_word 143 = .ok (.iconst 0, 1) := by decide +kernel
theorem dX10_word_144 : decode cX10_word 144 = .ok (.istore_n 2, 1) := by decide +kernel
theorem dX10_word_145 : decode cX10_word 145 = .ok (.iload_n 2, 1) := by decide +kernel
theorem dX10_word_146 : decode cX10_word 146 = .ok (.aload_n 0, 1) := by decide +kernel
theorem dX10_word_147 : decode cX10_word 147 = .ok (.getfield 73, 3) := by decide +kernel
theorem dX10_word_150 : decode cX10_word 150 = .ok (.if_icmp .ge 29, 3) := by decide +kernel
theorem dX10_word_153 : decode cX10_word 153 = .ok (.aload_n 0, 1) := by decide +kernel
theorem dX10_word_154 : decode cX10_word 154 = .ok (.getfield 16, 3) := by decide +kernel
theorem dX10_word_157 : decode cX10_word 157 = .ok (.bipush 12, 2) := by decide +kernel
theorem dX10_word_159 : decode cX10_word 159 = .ok (.aload_n 0, 1) := by decide +kernel
theorem dX10_word_160 : decode cX10_word 160 = .ok (.getfield 66, 3) := by decide +kernel
theorem dX10_word_163 : decode cX10_word 163 = .ok (.imul, 1) := by decide +kernel
theorem dX10_word_164 : decode cX10_word 164 = .ok (.iload_n 2, 1) := by decide +kernel
theorem dX10_word_165 : decode cX10_word 165 = .ok (.iadd, 1) := by decide +kernel
theorem dX10_word_166 : decode cX10_word 166 = .ok (.aload_n 0, 1) := by decide +kernel
theorem dX10_word_167 : decode cX10_word 167 = .ok (.getfield 7, 3) := by decide +kernel
theorem dX10_word_170 : decode cX10_word 170 = .ok (.iload_n 2, 1) := by decide +kernel
theorem dX10_word_171 : decode cX10_word 171 = .ok (.iaload, 1) := by decide +kernel
theorem dX10_word_172 : decode cX10_word 172 = .ok (.iastore, 1) := by decide +kernel
theorem dX10_word_173 : decode cX10_word 173 = .ok (.iinc 2 1, 3) := by decide +kernel
theorem dX10_word_176 : decode cX10_word 176 = .ok (.goto (-31), 3) := by decide +kernel
theorem dX10_word_179 : decode cX10_word 179 = .ok (.aload_n 0, 1) := by decide +kernel
theorem dX10_word_180 : decode cX10_word 180 = .ok (.getfield 19, 3) := by decide +kernel
theorem dX10_word_183 : decode cX10_word 183 = .ok (.aload_n 0, 1) := by decide +kernel
theorem dX10_word_184 : decode cX10_word 184 = .ok (.getfield 66, 3) := by decide +kernel
theorem dX10_word_187 : decode cX10_word 187 = .ok (.iload_n 1, 1) := by decide +kernel
theorem dX10_word_188 : decode cX10_word 188 = .ok (.iastore, 1) := by decide +kernel
theorem dX10_word_189 : decode cX10_word 189 = .ok (.aload_n 0, 1) := by decide +kernel
theorem dX10_word_190 : decode cX10_word 190 = .ok (.dup, 1) := by decide +kernel
theorem dX10_word_191 : decode cX10_word 191 = .ok (.getfield 66, 3) := by decide +kernel
theorem dX10_word_194 : decode cX10_word 194 = .ok (.iconst 1, 1) := by decide +kernel
theorem dX10_word_195 : decode cX10_word 195 = .ok (.iadd, 1) := by decide +kernel
theorem dX10_word_196 : decode cX10_word 196 = .ok (.putfield 66, 3) := by decide +kernel
theorem dX10_word_199 : decode cX10_word 199 = .ok (.aload_n 0, 1) := by decide +kernel
theorem dX10_word_200 : decode cX10_word 200 = .ok (.getfield 66, 3) := by decide +kernel
theorem dX10_word_203 : decode cX10_word 203 = .ok (.iconst 1, 1) := by decide +kernel
theorem dX10_word_204 : decode cX10_word 204 = .ok (.isub, 1) := by decide +kernel
theorem dX10_word_205 : decode cX10_word 205 = .ok (.ireturn, 1) := by decide +kernel
theorem dX10_count_0 : decode cX10_count 0 = .ok (.aload_n 0, 1) := by decide +kernel
theorem dX10_count_1 : decode cX10_count 1 = .ok (.iconst 0, 1) := by decide +kernel
theorem dX10_count_2 : decode cX10_count 2 = .ok (.putfield 62, 3) := by decide +kernel
theorem dX10_count_5 : decode cX10_count 5 = .ok (.aload_n 0, 1) := by decide +kernel
theorem dX10_count_6 : decode cX10_count 6 = .ok (.iload_n 1, 1) := by decide +kernel
theorem dX10_count_7 : decode cX10_count 7 = .ok (.invokevirtual 76, 3) := by decide +kernel
theorem dX10_count_10 : decode cX10_count 10 = .ok (.ifCond .ne 5, 3) := by decide +kernel
theorem dX10_count_13 : decode cX10_count 13 = .ok (.iconst (-1), 1) := by decide +kernel
theorem dX10_count_14 : decode cX10_count 14 = .ok (.ireturn, 1) := by decide +kernel
theorem dX10_count_15 : decode cX10_count 15 = .ok (.iload_n 2, 1) := by decide +kernel
theorem dX10_count_16 : decode cX10_count 16 = .ok (.iconst 1, 1) := by decide +kernel
theorem dX10_count_17 : decode cX10_count 17 = .ok (.sipush 1000, 3) := by decide +kernel
theorem dX10_count_20 : decode cX10_count 20 = .ok (.invokestatic 69, 3) := by decide +kernel
theorem dX10_count_23 : decode cX10_count 23 = .ok (.ifCond .ne 6, 3) := by decide +kernel
theorem dX10_count_26 : decode cX10_count 26 = .ok (.bipush (-2), 2) := by decide +kernel
theorem dX10_count_28 : decode cX10_count 28 = .ok (.ireturn, 1) := by decide +kernel
theorem dX10_count_29 : decode cX10_count 29 = .ok (.aload_n 0, 1) := by decide +kernel
theorem dX10_count_30 : decode cX10_count 30 = .ok (.getfield 19, 3) := by decide +kernel
theorem dX10_count_33 : decode cX10_count 33 = .ok (.iload_n 1, 1) := by decide +kernel
theorem dX10_count_34 : decode cX10_count 34 = .ok (.iaload, 1) := by decide +kernel
theorem dX10_count_35 : decode cX10_count 35 = .ok (.istore_n 3, 1) := by decide +kernel
theorem dX10_count_36 : decode cX10_count 36 = .ok (.aload_n 0, 1) := by decide +kernel
theorem dX10_count_37 : decode cX10_count 37 = .ok (.getfield 19, 3) := by decide +kernel
theorem dX10_count_40 : decode cX10_count 40 = .ok (.iload_n 1, 1) := by decide +kernel
theorem dX10_count_41 : decode cX10_count 41 = .ok (.iload_n 2, 1) := by decide +kernel
theorem dX10_count_42 : decode cX10_count 42 = .ok (.iastore, 1) := by decide +kernel
theorem dX10_count_43 : decode cX10_count 43 = .ok (.iload_n 3, 1) := by decide +kernel
theorem dX10_count_44 : decode cX10_count 44 = .ok (.ireturn, 1) := by decide +kernel
theorem dX10_isAhead_0 : decode cX10_isAhead 0 = .ok (.iconst 0, 1) := by decide +kernel
theorem dX10_isAhead_1 : decode cX10_isAhead 1 = .ok (.istore_n 3, 1) := by decide +kernel
theorem dX10_isAhead_2 : decode cX10_isAhead 2 = .ok (.iload_n 3, 1) := by decide +kernel
theorem dX10_isAhead_3 : decode cX10_isAhead 3 = .ok (.aload_n 0, 1) := by decide +kernel
theorem dX10_isAhead_4 : decode cX10_isAhead 4 = .ok (.getfield 13, 3) := by decide +kernel
theorem dX10_isAhead_7 : decode cX10_isAhead 7 = .ok (.iload_n 1, 1) := by decide +kernel
theorem dX10_isAhead_8 : decode cX10_isAhead 8 = .ok (.iaload, 1) := by decide +kernel
theorem dX10_isAhead_9 : decode cX10_isAhead 9 = .ok (.if_icmp .ge 44, 3) := by decide +kernel
theorem dX10_isAhead_12 : decode cX10_isAhead 12 = .ok (.iload_n 3, 1) := by decide +kernel
theorem dX10_isAhead_13 : decode cX10_isAhead 13 = .ok (.aload_n 0, 1) := by decide +kernel
theorem dX10_isAhead_14 : decode cX10_isAhead 14 = .ok (.getfield 13, 3) := by decide +kernel
theorem dX10_isAhead_17 : decode cX10_isAhead 17 = .ok (.iload_n 2, 1) := by decide +kernel
theorem dX10_isAhead_18 : decode cX10_isAhead 18 = .ok (.iaload, 1) := by decide +kernel
theorem dX10_isAhead_19 : decode cX10_isAhead 19 = .ok (.if_icmp .ge 34, 3) := by decide +kernel
theorem dX10_isAhead_22 : decode cX10_isAhead 22 = .ok (.aload_n 0, 1) := by decide +kernel
theorem dX10_isAhead_23 : decode cX10_isAhead 23 = .ok (.getfield 16, 3) := by decide +kernel
theorem dX10_isAhead_26 : decode cX10_isAhead 26 = .ok (.bipush 12, 2) := by decide +kernel
theorem dX10_isAhead_28 : decode cX10_isAhead 28 = .ok (.iload_n 1, 1) := by decide +kernel
theorem dX10_isAhead_29 : decode cX10_isAhead 29 = .ok (.imul, 1) := by decide +kernel
theorem dX10_isAhead_30 : decode cX10_isAhead 30 = .ok (.iload_n 3, 1) := by decide +kernel
theorem dX10_isAhead_31 : decode cX10_isAhead 31 = .ok (.iadd, 1) := by decide +kernel
theorem dX10_isAhead_32 : decode cX10_isAhead 32 = .ok (.iaload, 1) := by decide +kernel
theorem dX10_isAhead_33 : decode cX10_isAhead 33 = .ok (.aload_n 0, 1) := by decide +kernel
theorem dX10_isAhead_34 : decode cX10_isAhead 34 = .ok (.getfield 16, 3) := by decide +kernel
theorem dX10_isAhead_37 : decode cX10_isAhead 37 = .ok (.bipush 12, 2) := by decide +kernel
theorem dX10_isAhead_39 : decode cX10_isAhead 39 = .ok (.iload_n 2, 1) := by decide +kernel
theorem dX10_isAhead_40 : decode cX10_isAhead 40 = .ok (.imul, 1) := by decide +kernel
theorem dX10_isAhead_41 : decode cX10_isAhead 41 = .ok (.iload_n 3, 1) := by decide +kernel
theorem dX10_isAhead_42 : decode cX10_isAhead 42 = .ok (.iadd, 1) := by decide +kernel
theorem dX10_isAhead_43 : decode cX10_isAhead 43 = .ok (.iaload, 1) := by decide +kernel
theorem dX10_isAhead_44 : decode cX10_isAhead 44 = .ok (.if_icmp .ne 9, 3) := by decide +kernel
theorem dX10_isAhead_47 : decode cX10_isAhead 47 = .ok (.iinc 3 1, 3) := by decide +kernel
theorem dX10_isAhead_50 : decode cX10_isAhead 50 = .ok (.goto (-48), 3) := by decide +kernel
theorem dX10_isAhead_53 : decode cX10_isAhead 53 = .ok (.iload_n 3, 1) := by decide +kernel
theorem dX10_isAhead_54 : decode cX10_isAhead 54 = .ok (.aload_n 0, 1) := by decide +kernel
theorem dX10_isAhead_55 : decode cX10_isAhead 55 = .ok (.getfield 13, 3) := by decide +kernel
theorem dX10_isAhead_58 : decode cX10_isAhead 58 = .ok (.iload_n 1, 1) := by decide +kernel
theorem dX10_isAhead_59 : decode cX10_isAhead 59 = .ok (.iaload, 1) := by decide +kernel
theorem dX10_isAhead_60 : decode cX10_isAhead 60 = .ok (.if_icmp .eq 13, 3) := by decide +kernel
theorem dX10_isAhead_63 : decode cX10_isAhead 63 = .ok (.iload_n 3, 1) := by decide +kernel
theorem dX10_isAhead_64 : decode cX10_isAhead 64 = .ok (.aload_n 0, 1) := by decide +kernel
theorem dX10_isAhead_65 : decode cX10_isAhead 65 = .ok (.getfield 13, 3) := by decide +kernel
theorem dX10_isAhead_68 : decode cX10_isAhead 68 = .ok (.iload_n 2, 1) := by decide +kernel
theorem dX10_isAhead_69 : decode cX10_isAhead 69 = .ok (.iaload, 1) := by decide +kernel
theorem dX10_isAhead_70 : decode cX10_isAhead 70 = .ok (.if_icmp .ne 29, 3) := by decide +kernel
theorem dX10_isAhead_73 : decode cX10_isAhead 73 = .ok (.iload_n 3, 1) := by decide +kernel
theorem dX10_isAhead_74 : decode cX10_isAhead 74 = .ok (.aload_n 0, 1) := by decide +kernel
theorem dX10_isAhead_75 : decode cX10_isAhead 75 = .ok (.getfield 13, 3) := by decide +kernel
theorem dX10_isAhead_78 : decode cX10_isAhead 78 = .ok (.iload_n 1, 1) := by decide +kernel
theorem dX10_isAhead_79 : decode cX10_isAhead 79 = .ok (.iaload, 1) := by decide +kernel
theorem dX10_isAhead_80 : decode cX10_isAhead 80 = .ok (.if_icmp .ne 17, 3) := by decide +kernel
theorem dX10_isAhead_83 : decode cX10_isAhead 83 = .ok (.iload_n 3, 1) := by decide +kernel
theorem dX10_isAhead_84 : decode cX10_isAhead 84 = .ok (.aload_n 0, 1) := by decide +kernel
theorem dX10_isAhead_85 : decode cX10_isAhead 85 = .ok (.getfield 13, 3) := by decide +kernel
theorem dX10_isAhead_88 : decode cX10_isAhead 88 = .ok (.iload_n 2, 1) := by decide +kernel
theorem dX10_isAhead_89 : decode cX10_isAhead 89 = .ok (.iaload, 1) := by decide +kernel
theorem dX10_isAhead_90 : decode cX10_isAhead 90 = .ok (.if_icmp .ge 7, 3) := by decide +kernel
theorem dX10_isAhead_93 : decode cX10_isAhead 93 = .ok (.iconst 1, 1) := by decide +kernel
theorem dX10_isAhead_94 : decode cX10_isAhead 94 = .ok (.goto 4, 3) := by decide +kernel
theorem dX10_isAhead_97 : decode cX10_isAhead 97 = .ok (.iconst 0, 1) := by decide +kernel
theorem dX10_isAhead_98 : decode cX10_isAhead 98 = .ok (.ireturn, 1) := by decide +kernel
theorem dX10_isAhead_99 : decode cX10_isAhead 99 = .ok (.aload_n 0, 1) := by decide +kernel
theorem dX10_isAhead_100 : decode cX10_isAhead 100 = .ok (.getfield 16, 3) := by decide +kernel
theorem dX10_isAhead_103 : decode cX10_isAhead 103 = .ok (.bipush 12, 2) := by decide +kernel
theorem dX10_isAhead_105 : decode cX10_isAhead 105 = .ok (.iload_n 1, 1) := by decide +kernel
theorem dX10_isAhead_106 : decode cX10_isAhead 106 = .ok (.imul, 1) := by decide +kernel
theorem dX10_isAhead_107 : decode cX10_isAhead 107 = .ok (.iload_n 3, 1) := by decide +kernel
theorem dX10_isAhead_108 : decode cX10_isAhead 108 = .ok (.iadd, 1) := by decide +kernel
theorem dX10_isAhead_109 : decode cX10_isAhead 109 = .ok (.iaload, 1) := by decide +kernel
theorem dX10_isAhead_110 : decode cX10_isAhead 110 = .ok (.aload_n 0, 1) := by decide +kernel
theorem dX10_isAhead_111 : decode cX10_isAhead 111 = .ok (.getfield 16, 3) := by decide +kernel
theorem dX10_isAhead_114 : decode cX10_isAhead 114 = .ok (.bipush 12, 2) := by decide +kernel
theorem dX10_isAhead_116 : decode cX10_isAhead 116 = .ok (.iload_n 2, 1) := by decide +kernel
theorem dX10_isAhead_117 : decode cX10_isAhead 117 = .ok (.imul, 1) := by decide +kernel
theorem dX10_isAhead_118 : decode cX10_isAhead 118 = .ok (.iload_n 3, 1) := by decide +kernel
theorem dX10_isAhead_119 : decode cX10_isAhead 119 = .ok (.iadd, 1) := by decide +kernel
theorem dX10_isAhead_120 : decode cX10_isAhead 120 = .ok (.iaload, 1) := by decide +kernel
theorem dX10_isAhead_121 : decode cX10_isAhead 121 = .ok (.if_icmp .ge 7, 3) := by decide +kernel
theorem dX10_isAhead_124 : decode cX10_isAhead 124 = .ok (.iconst 1, 1) := by decide +kernel
theorem dX10_isAhead_125 : decode cX10_isAhead 125 = .ok (.goto 4, 3) := by decide +kernel
theorem dX10_isAhead_128 : decode cX10_isAhead 128 = .ok (.iconst 0, 1) := by decide +kernel
theorem dX10_isAhead_129 : decode cX10_isAhead 129 = .ok (.ireturn, 1) := by decide +kernel
theorem dX10_rank_0 : decode cX10_rank 0 = .ok (.iconst 0, 1) := by decide +kernel
theorem dX10_rank_1 : decode cX10_rank 1 = .ok (.istore_n 2, 1) := by decide +kernel
theorem dX10_rank_2 : decode cX10_rank 2 = .ok (.iconst 0, 1) := by decide +kernel
theorem dX10_rank_3 : decode cX10_rank 3 = .ok (.istore_n 3, 1) := by decide +kernel
theorem dX10_rank_4 : decode cX10_rank 4 = .ok (.iload_n 3, 1) := by decide +kernel
theorem dX10_rank_5 : decode cX10_rank 5 = .ok (.aload_n 0, 1) := by decide +kernel
theorem dX10_rank_6 : decode cX10_rank 6 = .ok (.getfield 66, 3) := by decide +kernel
theorem dX10_rank_9 : decode cX10_rank 9 = .ok (.if_icmp .ge 26, 3) := by decide +kernel
theorem dX10_rank_12 : decode cX10_rank 12 = .ok (.iload_n 2, 1) := by decide +kernel
theorem dX10_rank_13 : decode cX10_rank 13 = .ok (.aload_n 0, 1) := by decide +kernel
theorem dX10_rank_14 : decode cX10_rank 14 = .ok (.iload_n 3, 1) := by decide +kernel
theorem dX10_rank_15 : decode cX10_rank 15 = .ok (.iload_n 1, 1) := by decide +kernel
theorem dX10_rank_16 : decode cX10_rank 16 = .ok (.invokevirtual 80, 3) := by decide +kernel
theorem dX10_rank_19 : decode cX10_rank 19 = .ok (.ifCond .eq 7, 3) := by decide +kernel
theorem dX10_rank_22 : decode cX10_rank 22 = .ok (.iconst 1, 1) := by decide +kernel
theorem dX10_rank_23 : decode cX10_rank 23 = .ok (.goto 4, 3) := by decide +kernel
theorem dX10_rank_26 : decode cX10_rank 26 = .ok (.iconst 0, 1) := by decide +kernel
theorem dX10_rank_27 : decode cX10_rank 27 = .ok (.iadd, 1) := by decide +kernel
theorem dX10_rank_28 : decode cX10_rank 28 = .ok (.istore_n 2, 1) := by decide +kernel
theorem dX10_rank_29 : decode cX10_rank 29 = .ok (.iinc 3 1, 3) := by decide +kernel
theorem dX10_rank_32 : decode cX10_rank 32 = .ok (.goto (-28), 3) := by decide +kernel
theorem dX10_rank_35 : decode cX10_rank 35 = .ok (.iload_n 2, 1) := by decide +kernel
theorem dX10_rank_36 : decode cX10_rank 36 = .ok (.ireturn, 1) := by decide +kernel
theorem dX10_at_0 : decode cX10_at 0 = .ok (.aload_n 0, 1) := by decide +kernel
theorem dX10_at_1 : decode cX10_at 1 = .ok (.iconst 0, 1) := by decide +kernel
theorem dX10_at_2 : decode cX10_at 2 = .ok (.putfield 62, 3) := by decide +kernel
theorem dX10_at_5 : decode cX10_at 5 = .ok (.aload_n 0, 1) := by decide +kernel
theorem dX10_at_6 : decode cX10_at 6 = .ok (.iload_n 1, 1) := by decide +kernel
theorem dX10_at_7 : decode cX10_at 7 = .ok (.invokevirtual 76, 3) := by decide +kernel
theorem dX10_at_10 : decode cX10_at 10 = .ok (.ifCond .eq 20, 3) := by decide +kernel
theorem dX10_at_13 : decode cX10_at 13 = .ok (.iload_n 2, 1) := by decide +kernel
theorem dX10_at_14 : decode cX10_at 14 = .ok (.bipush (-2), 2) := by decide +kernel
theorem dX10_at_16 : decode cX10_at 16 = .ok (.aload_n 0, 1) := by decide +kernel
theorem dX10_at_17 : decode cX10_at 17 = .ok (.getfield 13, 3) := by decide +kernel
theorem dX10_at_20 : decode cX10_at 20 = .ok (.iload_n 1, 1) := by decide +kernel
theorem dX10_at_21 : decode cX10_at 21 = .ok (.iaload, 1) := by decide +kernel
theorem dX10_at_22 : decode cX10_at 22 = .ok (.iconst 1, 1) := by decide +kernel
theorem dX10_at_23 : decode cX10_at 23 = .ok (.isub, 1) := by decide +kernel
theorem dX10_at_24 : decode cX10_at 24 = .ok (.invokestatic 69, 3) := by decide +kernel
theorem dX10_at_27 : decode cX10_at 27 = .ok (.ifCond .ne 5, 3) := by decide +kernel
theorem dX10_at_30 : decode cX10_at 30 = .ok (.iconst (-1), 1) := by decide +kernel
theorem dX10_at_31 : decode cX10_at 31 = .ok (.ireturn, 1) := by decide +kernel
theorem dX10_at_32 : decode cX10_at 32 = .ok (.iload_n 2, 1) := by decide +kernel
theorem dX10_at_33 : decode cX10_at 33 = .ok (.bipush (-2), 2) := by decide +kernel
theorem dX10_at_35 : decode cX10_at 35 = .ok (.if_icmp .ne 12, 3) := by decide +kernel
theorem dX10_at_38 : decode cX10_at 38 = .ok (.aload_n 0, 1) := by decide +kernel
theorem dX10_at_39 : decode cX10_at 39 = .ok (.getfield 13, 3) := by decide +kernel
theorem dX10_at_42 : decode cX10_at 42 = .ok (.iload_n 1, 1) := by decide +kernel
theorem dX10_at_43 : decode cX10_at 43 = .ok (.iaload, 1) := by decide +kernel
theorem dX10_at_44 : decode cX10_at 44 = .ok (.goto 27, 3) := by decide +kernel
theorem dX10_at_47 : decode cX10_at 47 = .ok (.iload_n 2, 1) := by decide +kernel
theorem dX10_at_48 : decode cX10_at 48 = .ok (.iconst (-1), 1) := by decide +kernel
theorem dX10_at_49 : decode cX10_at 49 = .ok (.if_icmp .ne 11, 3) := by decide +kernel
theorem dX10_at_52 : decode cX10_at 52 = .ok (.aload_n 0, 1) := by decide +kernel
theorem dX10_at_53 : decode cX10_at 53 = .ok (.iload_n 1, 1) := by decide +kernel
theorem dX10_at_54 : decode cX10_at 54 = .ok (.invokevirtual 84, 3) := by decide +kernel
theorem dX10_at_57 : decode cX10_at 57 = .ok (.goto 14, 3) := by decide +kernel
theorem dX10_at_60 : decode cX10_at 60 = .ok (.aload_n 0, 1) := by decide +kernel
theorem dX10_at_61 : decode cX10_at 61 = .ok (.getfield 16, 3) := by decide +kernel
theorem dX10_at_64 : decode cX10_at 64 = .ok (.bipush 12, 2) := by decide +kernel
theorem dX10_at_66 : decode cX10_at 66 = .ok (.iload_n 1, 1) := by decide +kernel
theorem dX10_at_67 : decode cX10_at 67 = .ok (.imul, 1) := by decide +kernel
theorem dX10_at_68 : decode cX10_at 68 = .ok (.iload_n 2, 1) := by decide +kernel
theorem dX10_at_69 : decode cX10_at 69 = .ok (.iadd, 1) := by decide +kernel
theorem dX10_at_70 : decode cX10_at 70 = .ok (.iaload, 1) := by decide +kernel
theorem dX10_at_71 : decode cX10_at 71 = .ok (.ireturn, 1) := by decide +kernel
theorem dX10_price_0 : decode cX10_price 0 = .ok (.aload_n 0, 1) := by decide +kernel
theorem dX10_price_1 : decode cX10_price 1 = .ok (.iconst 0, 1) := by decide +kernel
theorem dX10_price_2 : decode cX10_price 2 = .ok (.putfield 62, 3) := by decide +kernel
theorem dX10_price_5 : decode cX10_price 5 = .ok (.iload_n 1, 1) := by decide +kernel
theorem dX10_price_6 : decode cX10_price 6 = .ok (.iconst 0, 1) := by decide +kernel
theorem dX10_price_7 : decode cX10_price 7 = .ok (.iconst 5, 1) := by decide +kernel
theorem dX10_price_8 : decode cX10_price 8 = .ok (.invokestatic 69, 3) := by decide +kernel
theorem dX10_price_11 : decode cX10_price 11 = .ok (.ifCond .eq 23, 3) := by decide +kernel
theorem dX10_price_14 : decode cX10_price 14 = .ok (.iload_n 2, 1) := by decide +kernel
theorem dX10_price_15 : decode cX10_price 15 = .ok (.iconst 0, 1) := by decide +kernel
theorem dX10_price_16 : decode cX10_price 16 = .ok (.iload_n 1, 1) := by decide +kernel
theorem dX10_price_17 : decode cX10_price 17 = .ok (.iconst 4, 1) := by decide +kernel
theorem dX10_price_18 : decode cX10_price 18 = .ok (.if_icmp .ge 8, 3) := by decide +kernel
theorem dX10_price_21 : decode cX10_price 21 = .ok (.bipush 9, 2) := by decide +kernel
theorem dX10_price_23 : decode cX10_price 23 = .ok (.goto 5, 3) := by decide +kernel
theorem dX10_price_26 : decode cX10_price 26 = .ok (.bipush 50, 2) := by decide +kernel
theorem dX10_price_28 : decode cX10_price 28 = .ok (.invokestatic 69, 3) := by decide +kernel
theorem dX10_price_31 : decode cX10_price 31 = .ok (.ifCond .ne 6, 3) := by decide +kernel
theorem dX10_price_34 : decode cX10_price 34 = .ok (.bipush (-2), 2) := by decide +kernel
theorem dX10_price_36 : decode cX10_price 36 = .ok (.ireturn, 1) := by decide +kernel
theorem dX10_price_37 : decode cX10_price 37 = .ok (.aload_n 0, 1) := by decide +kernel
theorem dX10_price_38 : decode cX10_price 38 = .ok (.getfield 22, 3) := by decide +kernel
theorem dX10_price_41 : decode cX10_price 41 = .ok (.iload_n 1, 1) := by decide +kernel
theorem dX10_price_42 : decode cX10_price 42 = .ok (.iaload, 1) := by decide +kernel
theorem dX10_price_43 : decode cX10_price 43 = .ok (.istore_n 3, 1) := by decide +kernel
theorem dX10_price_44 : decode cX10_price 44 = .ok (.aload_n 0, 1) := by decide +kernel
theorem dX10_price_45 : decode cX10_price 45 = .ok (.getfield 22, 3) := by decide +kernel
theorem dX10_price_48 : decode cX10_price 48 = .ok (.iload_n 1, 1) := by decide +kernel
theorem dX10_price_49 : decode cX10_price 49 = .ok (.iload_n 2, 1) := by decide +kernel
theorem dX10_price_50 : decode cX10_price 50 = .ok (.iastore, 1) := by decide +kernel
theorem dX10_price_51 : decode cX10_price 51 = .ok (.iload_n 3, 1) := by decide +kernel
theorem dX10_price_52 : decode cX10_price 52 = .ok (.ireturn, 1) := by decide +kernel
theorem dX10_near_0 : decode cX10_near 0 = .ok (.aload_n 0, 1) := by decide +kernel
theorem dX10_near_1 : decode cX10_near 1 = .ok (.iconst 0, 1) := by decide +kernel
theorem dX10_near_2 : decode cX10_near 2 = .ok (.putfield 62, 3) := by decide +kernel
theorem dX10_near_5 : decode cX10_near 5 = .ok (.iload_n 1, 1) := by decide +kernel
theorem dX10_near_6 : decode cX10_near 6 = .ok (.iconst 0, 1) := by decide +kernel
theorem dX10_near_7 : decode cX10_near 7 = .ok (.bipush 25, 2) := by decide +kernel
theorem dX10_near_9 : decode cX10_near 9 = .ok (.invokestatic 69, 3) := by decide +kernel
theorem dX10_near_12 : decode cX10_near 12 = .ok (.ifCond .eq 18, 3) := by decide +kernel
theorem dX10_near_15 : decode cX10_near 15 = .ok (.iload_n 2, 1) := by decide +kernel
theorem dX10_near_16 : decode cX10_near 16 = .ok (.iconst 0, 1) := by decide +kernel
theorem dX10_near_17 : decode cX10_near 17 = .ok (.bipush 25, 2) := by decide +kernel
theorem dX10_near_19 : decode cX10_near 19 = .ok (.invokestatic 69, 3) := by decide +kernel
theorem dX10_near_22 : decode cX10_near 22 = .ok (.ifCond .eq 8, 3) := by decide +kernel
theorem dX10_near_25 : decode cX10_near 25 = .ok (.iload_n 1, 1) := by decide +kernel
theorem dX10_near_26 : decode cX10_near 26 = .ok (.iload_n 2, 1) := by decide +kernel
theorem dX10_near_27 : decode cX10_near 27 = .ok (.if_icmp .ne 5, 3) := by decide +kernel
theorem dX10_near_30 : decode cX10_near 30 = .ok (.iconst (-1), 1) := by decide +kernel
theorem dX10_near_31 : decode cX10_near 31 = .ok (.ireturn, 1) := by decide +kernel
theorem dX10_near_32 : decode cX10_near 32 = .ok (.iload_n 3, 1) := by decide +kernel
theorem dX10_near_33 : decode cX10_near 33 = .ok (.iconst (-1), 1) := by decide +kernel
theorem dX10_near_34 : decode cX10_near 34 = .ok (.bipush 9, 2) := by decide +kernel
theorem dX10_near_36 : decode cX10_near 36 = .ok (.invokestatic 69, 3) := by decide +kernel
theorem dX10_near_39 : decode cX10_near 39 = .ok (.ifCond .ne 6, 3) := by decide +kernel
theorem dX10_near_42 : decode cX10_near 42 = .ok (.bipush (-2), 2) := by decide +kernel
theorem dX10_near_44 : decode cX10_near 44 = .ok (.ireturn, 1) := by decide +kernel
theorem dX10_near_45 : decode cX10_near 45 = .ok (.aload_n 0, 1) := by decide +kernel
theorem dX10_near_46 : decode cX10_near 46 = .ok (.getfield 25, 3) := by decide +kernel
theorem dX10_near_49 : decode cX10_near 49 = .ok (.bipush 26, 2) := by decide +kernel
theorem dX10_near_51 : decode cX10_near 51 = .ok (.iload_n 1, 1) := by decide +kernel
theorem dX10_near_52 : decode cX10_near 52 = .ok (.imul, 1) := by decide +kernel
theorem dX10_near_53 : decode cX10_near 53 = .ok (.iload_n 2, 1) := by decide +kernel
theorem dX10_near_54 : decode cX10_near 54 = .ok (.iadd, 1) := by decide +kernel
theorem dX10_near_55 : decode cX10_near 55 = .ok (.iaload, 1) := by decide +kernel
theorem dX10_near_56 : decode cX10_near 56 = .ok (.istore 4, 2) := by decide +kernel
theorem dX10_near_58 : decode cX10_near 58 = .ok (.aload_n 0, 1) := by decide +kernel
theorem dX10_near_59 : decode cX10_near 59 = .ok (.getfield 25, 3) := by decide +kernel
theorem dX10_near_62 : decode cX10_near 62 = .ok (.bipush 26, 2) := by decide +kernel
theorem dX10_near_64 : decode cX10_near 64 = .ok (.iload_n 1, 1) := by decide +kernel
theorem dX10_near_65 : decode cX10_near 65 = .ok (.imul, 1) := by decide +kernel
theorem dX10_near_66 : decode cX10_near 66 = .ok (.iload_n 2, 1) := by decide +kernel
theorem dX10_near_67 : decode cX10_near 67 = .ok (.iadd, 1) := by decide +kernel
theorem dX10_near_68 : decode cX10_near 68 = .ok (.iload_n 3, 1) := by decide +kernel
theorem dX10_near_69 : decode cX10_near 69 = .ok (.iconst 1, 1) := by decide +kernel
theorem dX10_near_70 : decode cX10_near 70 = .ok (.iadd, 1) := by decide +kernel
theorem dX10_near_71 : decode cX10_near 71 = .ok (.iastore, 1) := by decide +kernel
theorem dX10_near_72 : decode cX10_near 72 = .ok (.iload 4, 2) := by decide +kernel
theorem dX10_near_74 : decode cX10_near 74 = .ok (.ifCond .ne 8, 3) := by decide +kernel
theorem dX10_near_77 : decode cX10_near 77 = .ok (.bipush (-3), 2) := by decide +kernel
theorem dX10_near_79 : decode cX10_near 79 = .ok (.goto 7, 3) := by decide +kernel
theorem dX10_near_82 : decode cX10_near 82 = .ok (.iload 4, 2) := by decide +kernel
theorem dX10_near_84 : decode cX10_near 84 = .ok (.iconst 1, 1) := by decide +kernel
theorem dX10_near_85 : decode cX10_near 85 = .ok (.isub, 1) := by decide +kernel
theorem dX10_near_86 : decode cX10_near 86 = .ok (.ireturn, 1) := by decide +kernel
theorem dX10_takeTyped_0 : decode cX10_takeTyped 0 = .ok (.aload_n 0, 1) := by decide +kernel
theorem dX10_takeTyped_1 : decode cX10_takeTyped 1 = .ok (.iload_n 2, 1) := by decide +kernel
theorem dX10_takeTyped_2 : decode cX10_takeTyped 2 = .ok (.iload_n 1, 1) := by decide +kernel
theorem dX10_takeTyped_3 : decode cX10_takeTyped 3 = .ok (.isub, 1) := by decide +kernel
theorem dX10_takeTyped_4 : decode cX10_takeTyped 4 = .ok (.putfield 88, 3) := by decide +kernel
theorem dX10_takeTyped_7 : decode cX10_takeTyped 7 = .ok (.iload_n 1, 1) := by decide +kernel
theorem dX10_takeTyped_8 : decode cX10_takeTyped 8 = .ok (.istore_n 3, 1) := by decide +kernel
theorem dX10_takeTyped_9 : decode cX10_takeTyped 9 = .ok (.iload_n 3, 1) := by decide +kernel
theorem dX10_takeTyped_10 : decode cX10_takeTyped 10 = .ok (.iload_n 2, 1) := by decide +kernel
theorem dX10_takeTyped_11 : decode cX10_takeTyped 11 = .ok (.if_icmp .ge 23, 3) := by decide +kernel
theorem dX10_takeTyped_14 : decode cX10_takeTyped 14 = .ok (.aload_n 0, 1) := by decide +kernel
theorem dX10_takeTyped_15 : decode cX10_takeTyped 15 = .ok (.getfield 41, 3) := by decide +kernel
theorem dX10_takeTyped_18 : decode cX10_takeTyped 18 = .ok (.iload_n 3, 1) := by decide +kernel
theorem dX10_takeTyped_19 : decode cX10_takeTyped 19 = .ok (.iload_n 1, 1) := by decide +kernel
theorem dX10_takeTyped_20 : decode cX10_takeTyped 20 = .ok (.isub, 1) := by decide +kernel
theorem dX10_takeTyped_21 : decode cX10_takeTyped 21 = .ok (.aload_n 0, 1) := by decide +kernel
theorem dX10_takeTyped_22 : decode cX10_takeTyped 22 = .ok (.getfield 7, 3) := by decide +kernel
theorem dX10_takeTyped_25 : decode cX10_takeTyped 25 = .ok (.iload_n 3, 1) := by decide +kernel
theorem dX10_takeTyped_26 : decode cX10_takeTyped 26 = .ok (.iaload, 1) := by decide +kernel
theorem dX10_takeTyped_27 : decode cX10_takeTyped 27 = .ok (.iastore, 1) := by decide +kernel
theorem dX10_takeTyped_28 : decode cX10_takeTyped 28 = .ok (.iinc 3 1, 3) := by decide +kernel
theorem dX10_takeTyped_31 : decode cX10_takeTyped 31 = .ok (.goto (-22), 3) := by decide +kernel
theorem dX10_takeTyped_34 : decode cX10_takeTyped 34 = .ok (.return_, 1) := by decide +kernel
theorem dX10_becomes_0 : decode cX10_becomes 0 = .ok (.aload_n 0, 1) := by decide +kernel
theorem dX10_becomes_1 : decode cX10_becomes 1 = .ok (.getfield 25, 3) := by decide +kernel
theorem dX10_becomes_4 : decode cX10_becomes 4 = .ok (.bipush 26, 2) := by decide +kernel
theorem dX10_becomes_6 : decode cX10_becomes 6 = .ok (.iload_n 1, 1) := by decide +kernel
theorem dX10_becomes_7 : decode cX10_becomes 7 = .ok (.imul, 1) := by decide +kernel
theorem dX10_becomes_8 : decode cX10_becomes 8 = .ok (.iload_n 2, 1) := by decide +kernel
theorem dX10_becomes_9 : decode cX10_becomes 9 = .ok (.iadd, 1) := by decide +kernel
theorem dX10_becomes_10 : decode cX10_becomes 10 = .ok (.iaload, 1) := by decide +kernel
theorem dX10_becomes_11 : decode cX10_becomes 11 = .ok (.istore_n 3, 1) := by decide +kernel
theorem dX10_becomes_12 : decode cX10_becomes 12 = .ok (.iload_n 3, 1) := by decide +kernel
theorem dX10_becomes_13 : decode cX10_becomes 13 = .ok (.ifCond .le 9, 3) := by decide +kernel
theorem dX10_becomes_16 : decode cX10_becomes 16 = .ok (.iload_n 3, 1) := by decide +kernel
theorem dX10_becomes_17 : decode cX10_becomes 17 = .ok (.iconst 1, 1) := by decide +kernel
theorem dX10_becomes_18 : decode cX10_becomes 18 = .ok (.isub, 1) := by decide +kernel
theorem dX10_becomes_19 : decode cX10_becomes 19 = .ok (.goto 9, 3) := by decide +kernel
theorem dX10_becomes_22 : decode cX10_becomes 22 = .ok (.aload_n 0, 1) := by decide +kernel
theorem dX10_becomes_23 : decode cX10_becomes 23 = .ok (.getfield 22, 3) := by decide +kernel
theorem dX10_becomes_26 : decode cX10_becomes 26 = .ok (.iconst 2, 1) := by decide +kernel
theorem dX10_becomes_27 : decode cX10_becomes 27 = .ok (.iaload, 1) := by decide +kernel
theorem dX10_becomes_28 : decode cX10_becomes 28 = .ok (.ireturn, 1) := by decide +kernel
theorem dX10_isTurned_0 : decode cX10_isTurned 0 = .ok (.iload_n 2, 1) := by decide +kernel
theorem dX10_isTurned_1 : decode cX10_isTurned 1 = .ok (.iconst 1, 1) := by decide +kernel
theorem dX10_isTurned_2 : decode cX10_isTurned 2 = .ok (.if_icmp .le 60, 3) := by decide +kernel
theorem dX10_isTurned_5 : decode cX10_isTurned 5 = .ok (.iload_n 3, 1) := by decide +kernel
theorem dX10_isTurned_6 : decode cX10_isTurned 6 = .ok (.iconst 1, 1) := by decide +kernel
theorem dX10_isTurned_7 : decode cX10_isTurned 7 = .ok (.if_icmp .le 55, 3) := by decide +kernel
theorem dX10_isTurned_10 : decode cX10_isTurned 10 = .ok (.aload_n 0, 1) := by decide +kernel
theorem dX10_isTurned_11 : decode cX10_isTurned 11 = .ok (.getfield 41, 3) := by decide +kernel
theorem dX10_isTurned_14 : decode cX10_isTurned 14 = .ok (.iload_n 2, 1) := by decide +kernel
theorem dX10_isTurned_15 : decode cX10_isTurned 15 = .ok (.iconst 2, 1) := by decide +kernel
theorem dX10_isTurned_16 : decode cX10_isTurned 16 = .ok (.isub, 1) := by decide +kernel
theorem dX10_isTurned_17 : decode cX10_isTurned 17 = .ok (.iaload, 1) := by decide +kernel
theorem dX10_isTurned_18 : decode cX10_isTurned 18 = .ok (.aload_n 0, 1) := by decide +kernel
theorem dX10_isTurned_19 : decode cX10_isTurned 19 = .ok (.getfield 16, 3) := by decide +kernel
theorem dX10_isTurned_22 : decode cX10_isTurned 22 = .ok (.bipush 12, 2) := by decide +kernel
theorem dX10_isTurned_24 : decode cX10_isTurned 24 = .ok (.iload_n 1, 1) := by decide +kernel
theorem dX10_isTurned_25 : decode cX10_isTurned 25 = .ok (.imul, 1) := by decide +kernel
theorem dX10_isTurned_26 : decode cX10_isTurned 26 = .ok (.iload_n 3, 1) := by decide +kernel
theorem dX10_isTurned_27 : decode cX10_isTurned 27 = .ok (.iadd, 1) := by decide +kernel
theorem dX10_isTurned_28 : decode cX10_isTurned 28 = .ok (.iconst 1, 1) := by decide +kernel
theorem dX10_isTurned_29 : decode cX10_isTurned 29 = .ok (.isub, 1) := by decide +kernel
theorem dX10_isTurned_30 : decode cX10_isTurned 30 = .ok (.iaload, 1) := by decide +kernel
theorem dX10_isTurned_31 : decode cX10_isTurned 31 = .ok (.if_icmp .ne 31, 3) := by decide +kernel
theorem dX10_isTurned_34 : decode cX10_isTurned 34 = .ok (.aload_n 0, 1) := by decide +kernel
theorem dX10_isTurned_35 : decode cX10_isTurned 35 = .ok (.getfield 41, 3) := by decide +kernel
theorem dX10_isTurned_38 : decode cX10_isTurned 38 = .ok (.iload_n 2, 1) := by decide +kernel
theorem dX10_isTurned_39 : decode cX10_isTurned 39 = .ok (.iconst 1, 1) := by decide +kernel
theorem dX10_isTurned_40 : decode cX10_isTurned 40 = .ok (.isub, 1) := by decide +kernel
theorem dX10_isTurned_41 : decode cX10_isTurned 41 = .ok (.iaload, 1) := by decide +kernel
theorem dX10_isTurned_42 : decode cX10_isTurned 42 = .ok (.aload_n 0, 1) := by decide +kernel
theorem dX10_isTurned_43 : decode cX10_isTurned 43 = .ok (.getfield 16, 3) := by decide +kernel
theorem dX10_isTurned_46 : decode cX10_isTurned 46 = .ok (.bipush 12, 2) := by decide +kernel
theorem dX10_isTurned_48 : decode cX10_isTurned 48 = .ok (.iload_n 1, 1) := by decide +kernel
theorem dX10_isTurned_49 : decode cX10_isTurned 49 = .ok (.imul, 1) := by decide +kernel
theorem dX10_isTurned_50 : decode cX10_isTurned 50 = .ok (.iload_n 3, 1) := by decide +kernel
theorem dX10_isTurned_51 : decode cX10_isTurned 51 = .ok (.iadd, 1) := by decide +kernel
theorem dX10_isTurned_52 : decode cX10_isTurned 52 = .ok (.iconst 2, 1) := by decide +kernel
theorem dX10_isTurned_53 : decode cX10_isTurned 53 = .ok (.isub, 1) := by decide +kernel
theorem dX10_isTurned_54 : decode cX10_isTurned 54 = .ok (.iaload, 1) := by decide +kernel
theorem dX10_isTurned_55 : decode cX10_isTurned 55 = .ok (.if_icmp .ne 7, 3) := by decide +kernel
theorem dX10_isTurned_58 : decode cX10_isTurned 58 = .ok (.iconst 1, 1) := by decide +kernel
theorem dX10_isTurned_59 : decode cX10_isTurned 59 = .ok (.goto 4, 3) := by decide +kernel
theorem dX10_isTurned_62 : decode cX10_isTurned 62 = .ok (.iconst 0, 1) := by decide +kernel
theorem dX10_isTurned_63 : decode cX10_isTurned 63 = .ok (.ireturn, 1) := by decide +kernel
theorem dX10_fill_0 : decode cX10_fill 0 = .ok (.iconst 0, 1) := by decide +kernel
theorem dX10_fill_1 : decode cX10_fill 1 = .ok (.istore_n 2, 1) := by decide +kernel
theorem dX10_fill_2 : decode cX10_fill 2 = .ok (.iload_n 2, 1) := by decide +kernel
theorem dX10_fill_3 : decode cX10_fill 3 = .ok (.aload_n 0, 1) := by decide +kernel
theorem dX10_fill_4 : decode cX10_fill 4 = .ok (.getfield 88, 3) := by decide +kernel
theorem dX10_fill_7 : decode cX10_fill 7 = .ok (.if_icmp .gt 276, 3) := by decide +kernel
theorem dX10_fill_10 : decode cX10_fill 10 = .ok (.iconst 0, 1) := by decide +kernel
theorem dX10_fill_11 : decode cX10_fill 11 = .ok (.istore_n 3, 1) := by decide +kernel
theorem dX10_fill_12 : decode cX10_fill 12 = .ok (.iload_n 3, 1) := by decide +kernel
theorem dX10_fill_13 : decode cX10_fill 13 = .ok (.aload_n 0, 1) := by decide +kernel
theorem dX10_fill_14 : decode cX10_fill 14 = .ok (.getfield 13, 3) := by decide +kernel
theorem dX10_fill_17 : decode cX10_fill 17 = .ok (.iload_n 1, 1) := by decide +kernel
theorem dX10_fill_18 : decode cX10_fill 18 = .ok (.iaload, 1) := by decide +kernel
theorem dX10_fill_19 : decode cX10_fill 19 = .ok (.if_icmp .gt 258, 3) := by decide +kernel
theorem dX10_fill_22 : decode cX10_fill 22 = .ok (.iload_n 2, 1) := by decide +kernel
theorem dX10_fill_23 : decode cX10_fill 23 = .ok (.ifCond .ne 11, 3) := by decide +kernel
theorem dX10_fill_26 : decode cX10_fill 26 = .ok (.iload_n 3, 1) := by decide +kernel
theorem dX10_fill_27 : decode cX10_fill 27 = .ok (.ifCond .ne 7, 3) := by decide +kernel
theorem dX10_fill_30 : decode cX10_fill 30 = .ok (.iconst 0, 1) := by decide +kernel
theorem dX10_fill_31 : decode cX10_fill 31 = .ok (.goto 5, 3) := by decide +kernel
theorem dX10_fill_34 : decode cX10_fill 34 = .ok (.ldc 91, 2) := by decide +kernel
theorem dX10_fill_36 : decode cX10_fill 36 = .ok (.istore 4, 2) := by decide +kernel
theorem dX10_fill_38 : decode cX10_fill 38 = .ok (.iload_n 2, 1) := by decide +kernel
theorem dX10_fill_39 : decode cX10_fill 39 = .ok (.ifCond .le 41, 3) := by decide +kernel
theorem dX10_fill_42 : decode cX10_fill 42 = .ok (.aload_n 0, 1) := by decide +kernel
theorem dX10_fill_43 : decode cX10_fill 43 = .ok (.getfield 38, 3) := by decide +kernel
theorem dX10_fill_46 : decode cX10_fill 46 = .ok (.bipush 13, 2) := by decide +kernel
theorem dX10_fill_48 : decode cX10_fill 48 = .ok (.iload_n 2, 1) := by decide +kernel
theorem dX10_fill_49 : decode cX10_fill 49 = .ok (.iconst 1, 1) := by decide +kernel
theorem dX10_fill_50 : decode cX10_fill 50 = .ok (.isub, 1) := by decide +kernel
theorem dX10_fill_51 : decode cX10_fill 51 = .ok (.imul, 1) := by decide +kernel
theorem dX10_fill_52 : decode cX10_fill 52 = .ok (.iload_n 3, 1) := by decide +kernel
theorem dX10_fill_53 : decode cX10_fill 53 = .ok (.iadd, 1) := by decide +kernel
theorem dX10_fill_54 : decode cX10_fill 54 = .ok (.iaload, 1) := by decide +kernel
theorem dX10_fill_55 : decode cX10_fill 55 = .ok (.aload_n 0, 1) := by decide +kernel
theorem dX10_fill_56 : decode cX10_fill 56 = .ok (.getfield 22, 3) := by decide +kernel
theorem dX10_fill_59 : decode cX10_fill 59 = .ok (.iconst 1, 1) := by decide +kernel
theorem dX10_fill_60 : decode cX10_fill 60 = .ok (.iaload, 1) := by decide +kernel
theorem dX10_fill_61 : decode cX10_fill 61 = .ok (.iadd, 1) := by decide +kernel
theorem dX10_fill_62 : decode cX10_fill 62 = .ok (.istore 5, 2) := by decide +kernel
theorem dX10_fill_64 : decode cX10_fill 64 = .ok (.iload 5, 2) := by decide +kernel
theorem dX10_fill_66 : decode cX10_fill 66 = .ok (.iload 4, 2) := by decide +kernel
theorem dX10_fill_68 : decode cX10_fill 68 = .ok (.if_icmp .ge 8, 3) := by decide +kernel
theorem dX10_fill_71 : decode cX10_fill 71 = .ok (.iload 5, 2) := by decide +kernel
theorem dX10_fill_73 : decode cX10_fill 73 = .ok (.goto 5, 3) := by decide +kernel
theorem dX10_fill_76 : decode cX10_fill 76 = .ok (.iload 4, 2) := by decide +kernel
theorem dX10_fill_78 : decode cX10_fill 78 = .ok (.istore 4, 2) := by decide +kernel
theorem dX10_fill_80 : decode cX10_fill 80 = .ok (.iload_n 3, 1) := by decide +kernel
theorem dX10_fill_81 : decode cX10_fill 81 = .ok (.ifCond .le 41, 3) := by decide +kernel
theorem dX10_fill_84 : decode cX10_fill 84 = .ok (.aload_n 0, 1) := by decide +kernel
theorem dX10_fill_85 : decode cX10_fill 85 = .ok (.getfield 38, 3) := by decide +kernel
theorem dX10_fill_88 : decode cX10_fill 88 = .ok (.bipush 13, 2) := by decide +kernel
theorem dX10_fill_90 : decode cX10_fill 90 = .ok (.iload_n 2, 1) := by decide +kernel
theorem dX10_fill_91 : decode cX10_fill 91 = .ok (.imul, 1) := by decide +kernel
theorem dX10_fill_92 : decode cX10_fill 92 = .ok (.iload_n 3, 1) := by decide +kernel
theorem dX10_fill_93 : decode cX10_fill 93 = .ok (.iadd, 1) := by decide +kernel
theorem dX10_fill_94 : decode cX10_fill 94 = .ok (.iconst 1, 1) := by decide +kernel
theorem dX10_fill_95 : decode cX10_fill 95 = .ok (.isub, 1) := by decide +kernel
theorem dX10_fill_96 : decode cX10_fill 96 = .ok (.iaload, 1) := by decide +kernel
theorem dX10_fill_97 : decode cX10_fill 97 = .ok (.aload_n 0, 1) := by decide +kernel
theorem dX10_fill_98 : decode cX10_fill 98 = .ok (.getfield 22, 3) := by decide +kernel
theorem dX10_fill_101 : decode cX10_fill 101 = .ok (.iconst 0, 1) := by decide +kernel
theorem dX10_fill_102 : decode cX10_fill 102 = .ok (.iaload, 1) := by decide +kernel
theorem dX10_fill_103 : decode cX10_fill 103 = .ok (.iadd, 1) := by decide +kernel
theorem dX10_fill_104 : decode cX10_fill 104 = .ok (.istore 5, 2) := by decide +kernel
theorem dX10_fill_106 : decode cX10_fill 106 = .ok (.iload 5, 2) := by decide +kernel
theorem dX10_fill_108 : decode cX10_fill 108 = .ok (.iload 4, 2) := by decide +kernel
theorem dX10_fill_110 : decode cX10_fill 110 = .ok (.if_icmp .ge 8, 3) := by decide +kernel
theorem dX10_fill_113 : decode cX10_fill 113 = .ok (.iload 5, 2) := by decide +kernel
theorem dX10_fill_115 : decode cX10_fill 115 = .ok (.goto 5, 3) := by decide +kernel
theorem dX10_fill_118 : decode cX10_fill 118 = .ok (.iload 4, 2) := by decide +kernel
theorem dX10_fill_120 : decode cX10_fill 120 = .ok (.istore 4, 2) := by decide +kernel
theorem dX10_fill_122 : decode cX10_fill 122 = .ok (.iload_n 2, 1) := by decide +kernel
theorem dX10_fill_123 : decode cX10_fill 123 = .ok (.ifCond .le 85, 3) := by decide +kernel
theorem dX10_fill_126 : decode cX10_fill 126 = .ok (.iload_n 3, 1) := by decide +kernel
theorem dX10_fill_127 : decode cX10_fill 127 = .ok (.ifCond .le 81, 3) := by decide +kernel
theorem dX10_fill_130 : decode cX10_fill 130 = .ok (.aload_n 0, 1) := by decide +kernel
theorem dX10_fill_131 : decode cX10_fill 131 = .ok (.getfield 41, 3) := by decide +kernel
theorem dX10_fill_134 : decode cX10_fill 134 = .ok (.iload_n 2, 1) := by decide +kernel
theorem dX10_fill_135 : decode cX10_fill 135 = .ok (.iconst 1, 1) := by decide +kernel
theorem dX10_fill_136 : decode cX10_fill 136 = .ok (.isub, 1) := by decide +kernel
theorem dX10_fill_137 : decode cX10_fill 137 = .ok (.iaload, 1) := by decide +kernel
theorem dX10_fill_138 : decode cX10_fill 138 = .ok (.istore 5, 2) := by decide +kernel
theorem dX10_fill_140 : decode cX10_fill 140 = .ok (.aload_n 0, 1) := by decide +kernel
theorem dX10_fill_141 : decode cX10_fill 141 = .ok (.getfield 16, 3) := by decide +kernel
theorem dX10_fill_144 : decode cX10_fill 144 = .ok (.bipush 12, 2) := by decide +kernel
theorem dX10_fill_146 : decode cX10_fill 146 = .ok (.iload_n 1, 1) := by decide +kernel
theorem dX10_fill_147 : decode cX10_fill 147 = .ok (.imul, 1) := by decide +kernel
theorem dX10_fill_148 : decode cX10_fill 148 = .ok (.iload_n 3, 1) := by decide +kernel
theorem dX10_fill_149 : decode cX10_fill 149 = .ok (.iadd, 1) := by decide +kernel
theorem dX10_fill_150 : decode cX10_fill 150 = .ok (.iconst 1, 1) := by decide +kernel
theorem dX10_fill_151 : decode cX10_fill 151 = .ok (.isub, 1) := by decide +kernel
theorem dX10_fill_152 : decode cX10_fill 152 = .ok (.iaload, 1) := by decide +kernel
theorem dX10_fill_153 : decode cX10_fill 153 = .ok (.istore 6, 2) := by decide +kernel
theorem dX10_fill_155 : decode cX10_fill 155 = .ok (.aload_n 0, 1) := by decide +kernel
theorem dX10_fill_156 : decode cX10_fill 156 = .ok (.getfield 38, 3) := by decide +kernel
theorem dX10_fill_159 : decode cX10_fill 159 = .ok (.bipush 13, 2) := by decide +kernel
theorem dX10_fill_161 : decode cX10_fill 161 = .ok (.iload_n 2, 1) := by decide +kernel
theorem dX10_fill_162 : decode cX10_fill 162 = .ok (.iconst 1, 1) := by decide +kernel
theorem dX10_fill_163 : decode cX10_fill 163 = .ok (.isub, 1) := by decide +kernel
theorem dX10_fill_164 : decode cX10_fill 164 = .ok (.imul, 1) := by decide +kernel
theorem dX10_fill_165 : decode cX10_fill 165 = .ok (.iload_n 3, 1) := by decide +kernel
theorem dX10_fill_166 : decode cX10_fill 166 = .ok (.iadd, 1) := by decide +kernel
theorem dX10_fill_167 : decode cX10_fill 167 = .ok (.iconst 1, 1) := by decide +kernel
theorem dX10_fill_168 : decode cX10_fill 168 = .ok (.isub, 1) := by decide +kernel
theorem dX10_fill_169 : decode cX10_fill 169 = .ok (.iaload, 1) := by decide +kernel
theorem dX10_fill_170 : decode cX10_fill 170 = .ok (.iload 5, 2) := by decide +kernel
theorem dX10_fill_172 : decode cX10_fill 172 = .ok (.iload 6, 2) := by decide +kernel
theorem dX10_fill_174 : decode cX10_fill 174 = .ok (.if_icmp .ne 7, 3) := by decide +kernel
theorem dX10_fill_177 : decode cX10_fill 177 = .ok (.iconst 0, 1) := by decide +kernel
theorem dX10_fill_178 : decode cX10_fill 178 = .ok (.goto 11, 3) := by decide +kernel
theorem dX10_fill_181 : decode cX10_fill 181 = .ok (.aload_n 0, 1) := by decide +kernel
theorem dX10_fill_182 : decode cX10_fill 182 = .ok (.iload 5, 2) := by decide +kernel
theorem dX10_fill_184 : decode cX10_fill 184 = .ok (.iload 6, 2) := by decide +kernel
theorem dX10_fill_186 : decode cX10_fill 186 = .ok (.invokevirtual 92, 3) := by decide +kernel
theorem dX10_fill_189 : decode cX10_fill 189 = .ok (.iadd, 1) := by decide +kernel
theorem dX10_fill_190 : decode cX10_fill 190 = .ok (.istore 7, 2) := by decide +kernel
theorem dX10_fill_192 : decode cX10_fill 192 = .ok (.iload 7, 2) := by decide +kernel
theorem dX10_fill_194 : decode cX10_fill 194 = .ok (.iload 4, 2) := by decide +kernel
theorem dX10_fill_196 : decode cX10_fill 196 = .ok (.if_icmp .ge 8, 3) := by decide +kernel
theorem dX10_fill_199 : decode cX10_fill 199 = .ok (.iload 7, 2) := by decide +kernel
theorem dX10_fill_201 : decode cX10_fill 201 = .ok (.goto 5, 3) := by decide +kernel
theorem dX10_fill_204 : decode cX10_fill 204 = .ok (.iload 4, 2) := by decide +kernel
theorem dX10_fill_206 : decode cX10_fill 206 = .ok (.istore 4, 2) := by decide +kernel
theorem dX10_fill_208 : decode cX10_fill 208 = .ok (.aload_n 0, 1) := by decide +kernel
theorem dX10_fill_209 : decode cX10_fill 209 = .ok (.iload_n 1, 1) := by decide +kernel
theorem dX10_fill_210 : decode cX10_fill 210 = .ok (.iload_n 2, 1) := by decide +kernel
theorem dX10_fill_211 : decode cX10_fill 211 = .ok (.iload_n 3, 1) := by decide +kernel
theorem dX10_fill_212 : decode cX10_fill 212 = .ok (.invokevirtual 96, 3) := by decide +kernel
theorem dX10_fill_215 : decode cX10_fill 215 = .ok (.ifCond .eq 43, 3) := by decide +kernel
theorem dX10_fill_218 : decode cX10_fill 218 = .ok (.aload_n 0, 1) := by decide +kernel
theorem dX10_fill_219 : decode cX10_fill 219 = .ok (.getfield 38, 3) := by decide +kernel
theorem dX10_fill_222 : decode cX10_fill 222 = .ok (.bipush 13, 2) := by decide +kernel
theorem dX10_fill_224 : decode cX10_fill 224 = .ok (.iload_n 2, 1) := by decide +kernel
theorem dX10_fill_225 : decode cX10_fill 225 = .ok (.iconst 2, 1) := by decide +kernel
theorem dX10_fill_226 : decode cX10_fill 226 = .ok (.isub, 1) := by decide +kernel
theorem dX10_fill_227 : decode cX10_fill 227 = .ok (.imul, 1) := by decide +kernel
theorem dX10_fill_228 : decode cX10_fill 228 = .ok (.iload_n 3, 1) := by decide +kernel
theorem dX10_fill_229 : decode cX10_fill 229 = .ok (.iadd, 1) := by decide +kernel
theorem dX10_fill_230 : decode cX10_fill 230 = .ok (.iconst 2, 1) := by decide +kernel
theorem dX10_fill_231 : decode cX10_fill 231 = .ok (.isub, 1) := by decide +kernel
theorem dX10_fill_232 : decode cX10_fill 232 = .ok (.iaload, 1) := by decide +kernel
theorem dX10_fill_233 : decode cX10_fill 233 = .ok (.aload_n 0, 1) := by decide +kernel
theorem dX10_fill_234 : decode cX10_fill 234 = .ok (.getfield 22, 3) := by decide +kernel
theorem dX10_fill_237 : decode cX10_fill 237 = .ok (.iconst 3, 1) := by decide +kernel
theorem dX10_fill_238 : decode cX10_fill 238 = .ok (.iaload, 1) := by decide +kernel
theorem dX10_fill_239 : decode cX10_fill 239 = .ok (.iadd, 1) := by decide +kernel
theorem dX10_fill_240 : decode cX10_fill 240 = .ok (.istore 5, 2) := by decide +kernel
theorem dX10_fill_242 : decode cX10_fill 242 = .ok (.iload 5, 2) := by decide +kernel
theorem dX10_fill_244 : decode cX10_fill 244 = .ok (.iload 4, 2) := by decide +kernel
theorem dX10_fill_246 : decode cX10_fill 246 = .ok (.if_icmp .ge 8, 3) := by decide +kernel
theorem dX10_fill_249 : decode cX10_fill 249 = .ok (.iload 5, 2) := by decide +kernel
theorem dX10_fill_251 : decode cX10_fill 251 = .ok (.goto 5, 3) := by decide +kernel
theorem dX10_fill_254 : decode cX10_fill 254 = .ok (.iload 4, 2) := by decide +kernel
theorem dX10_fill_256 : decode cX10_fill 256 = .ok (.istore 4, 2) := by decide +kernel
theorem dX10_fill_258 : decode cX10_fill 258 = .ok (.aload_n 0, 1) := by decide +kernel
theorem dX10_fill_259 : decode cX10_fill 259 = .ok (.getfield 38, 3) := by decide +kernel
theorem dX10_fill_262 : decode cX10_fill 262 = .ok (.bipush 13, 2) := by decide +kernel
theorem dX10_fill_264 : decode cX10_fill 264 = .ok (.iload_n 2, 1) := by decide +kernel
theorem dX10_fill_265 : decode cX10_fill 265 = .ok (.imul, 1) := by decide +kernel
theorem dX10_fill_266 : decode cX10_fill 266 = .ok (.iload_n 3, 1) := by decide +kernel
theorem dX10_fill_267 : decode cX10_fill 267 = .ok (.iadd, 1) := by decide +kernel
theorem dX10_fill_268 : decode cX10_fill 268 = .ok (.iload 4, 2) := by decide +kernel
theorem dX10_fill_270 : decode cX10_fill 270 = .ok (.iastore, 1) := by decide +kernel
theorem dX10_fill_271 : decode cX10_fill 271 = .ok (.iinc 3 1, 3) := by decide +kernel
theorem dX10_fill_274 : decode cX10_fill 274 = .ok (.goto (-262), 3) := by decide +kernel
theorem dX10_fill_277 : decode cX10_fill 277 = .ok (.iinc 2 1, 3) := by decide +kernel
theorem dX10_fill_280 : decode cX10_fill 280 = .ok (.goto (-278), 3) := by decide +kernel
theorem dX10_fill_283 : decode cX10_fill 283 = .ok (.aload_n 0, 1) := by decide +kernel
theorem dX10_fill_284 : decode cX10_fill 284 = .ok (.getfield 38, 3) := by decide +kernel
theorem dX10_fill_287 : decode cX10_fill 287 = .ok (.bipush 13, 2) := by decide +kernel
theorem dX10_fill_289 : decode cX10_fill 289 = .ok (.aload_n 0, 1) := by decide +kernel
theorem dX10_fill_290 : decode cX10_fill 290 = .ok (.getfield 88, 3) := by decide +kernel
theorem dX10_fill_293 : decode cX10_fill 293 = .ok (.imul, 1) := by decide +kernel
theorem dX10_fill_294 : decode cX10_fill 294 = .ok (.aload_n 0, 1) := by decide +kernel
theorem dX10_fill_295 : decode cX10_fill 295 = .ok (.getfield 13, 3) := by decide +kernel
theorem dX10_fill_298 : decode cX10_fill 298 = .ok (.iload_n 1, 1) := by decide +kernel
theorem dX10_fill_299 : decode cX10_fill 299 = .ok (.iaload, 1) := by decide +kernel
theorem dX10_fill_300 : decode cX10_fill 300 = .ok (.iadd, 1) := by decide +kernel
theorem dX10_fill_301 : decode cX10_fill 301 = .ok (.iaload, 1) := by decide +kernel
theorem dX10_fill_302 : decode cX10_fill 302 = .ok (.ireturn, 1) := by decide +kernel
theorem dX10_beginsBy_0 : decode cX10_beginsBy 0 = .ok (.aload_n 0, 1) := by decide +kernel
theorem dX10_beginsBy_1 : decode cX10_beginsBy 1 = .ok (.iload_n 1, 1) := by decide +kernel
theorem dX10_beginsBy_2 : decode cX10_beginsBy 2 = .ok (.invokevirtual 99, 3) := by decide +kernel
theorem dX10_beginsBy_5 : decode cX10_beginsBy 5 = .ok (.istore_n 2, 1) := by decide +kernel
theorem dX10_beginsBy_6 : decode cX10_beginsBy 6 = .ok (.iconst 0, 1) := by decide +kernel
theorem dX10_beginsBy_7 : decode cX10_beginsBy 7 = .ok (.istore_n 3, 1) := by decide +kernel
theorem dX10_beginsBy_8 : decode cX10_beginsBy 8 = .ok (.iload_n 3, 1) := by decide +kernel
theorem dX10_beginsBy_9 : decode cX10_beginsBy 9 = .ok (.aload_n 0, 1) := by decide +kernel
theorem dX10_beginsBy_10 : decode cX10_beginsBy 10 = .ok (.getfield 13, 3) := by decide +kernel
theorem dX10_beginsBy_13 : decode cX10_beginsBy 13 = .ok (.iload_n 1, 1) := by decide +kernel
theorem dX10_beginsBy_14 : decode cX10_beginsBy 14 = .ok (.iaload, 1) := by decide +kernel
theorem dX10_beginsBy_15 : decode cX10_beginsBy 15 = .ok (.if_icmp .gt 38, 3) := by decide +kernel
theorem dX10_beginsBy_18 : decode cX10_beginsBy 18 = .ok (.aload_n 0, 1) := by decide +kernel
theorem dX10_beginsBy_19 : decode cX10_beginsBy 19 = .ok (.getfield 38, 3) := by decide +kernel
theorem dX10_beginsBy_22 : decode cX10_beginsBy 22 = .ok (.bipush 13, 2) := by decide +kernel
theorem dX10_beginsBy_24 : decode cX10_beginsBy 24 = .ok (.aload_n 0, 1) := by decide +kernel
theorem dX10_beginsBy_25 : decode cX10_beginsBy 25 = .ok (.getfield 88, 3) := by decide +kernel
theorem dX10_beginsBy_28 : decode cX10_beginsBy 28 = .ok (.imul, 1) := by decide +kernel
theorem dX10_beginsBy_29 : decode cX10_beginsBy 29 = .ok (.iload_n 3, 1) := by decide +kernel
theorem dX10_beginsBy_30 : decode cX10_beginsBy 30 = .ok (.iadd, 1) := by decide +kernel
theorem dX10_beginsBy_31 : decode cX10_beginsBy 31 = .ok (.iaload, 1) := by decide +kernel
theorem dX10_beginsBy_32 : decode cX10_beginsBy 32 = .ok (.istore 4, 2) := by decide +kernel
theorem dX10_beginsBy_34 : decode cX10_beginsBy 34 = .ok (.iload 4, 2) := by decide +kernel
theorem dX10_beginsBy_36 : decode cX10_beginsBy 36 = .ok (.iload_n 2, 1) := by decide +kernel
theorem dX10_beginsBy_37 : decode cX10_beginsBy 37 = .ok (.if_icmp .ge 8, 3) := by decide +kernel
theorem dX10_beginsBy_40 : decode cX10_beginsBy 40 = .ok (.iload 4, 2) := by decide +kernel
theorem dX10_beginsBy_42 : decode cX10_beginsBy 42 = .ok (.goto 4, 3) := by decide +kernel
theorem dX10_beginsBy_45 : decode cX10_beginsBy 45 = .ok (.iload_n 2, 1) := by decide +kernel
theorem dX10_beginsBy_46 : decode cX10_beginsBy 46 = .ok (.istore_n 2, 1) := by decide +kernel
theorem dX10_beginsBy_47 : decode cX10_beginsBy 47 = .ok (.iinc 3 1, 3) := by decide +kernel
theorem dX10_beginsBy_50 : decode cX10_beginsBy 50 = .ok (.goto (-42), 3) := by decide +kernel
theorem dX10_beginsBy_53 : decode cX10_beginsBy 53 = .ok (.iload_n 2, 1) := by decide +kernel
theorem dX10_beginsBy_54 : decode cX10_beginsBy 54 = .ok (.ireturn, 1) := by decide +kernel
theorem dX10_distance_0 : decode cX10_distance 0 = .ok (.aload_n 0, 1) := by decide +kernel
theorem dX10_distance_1 : decode cX10_distance 1 = .ok (.iconst 0, 1) := by decide +kernel
theorem dX10_distance_2 : decode cX10_distance 2 = .ok (.putfield 62, 3) := by decide +kernel
theorem dX10_distance_5 : decode cX10_distance 5 = .ok (.aload_n 0, 1) := by decide +kernel
theorem dX10_distance_6 : decode cX10_distance 6 = .ok (.iload_n 1, 1) := by decide +kernel
theorem dX10_distance_7 : decode cX10_distance 7 = .ok (.invokevirtual 76, 3) := by decide +kernel
theorem dX10_distance_10 : decode cX10_distance 10 = .ok (.ifCond .ne 5, 3) := by decide +kernel
theorem dX10_distance_13 : decode cX10_distance 13 = .ok (.iconst (-1), 1) := by decide +kernel
theorem dX10_distance_14 : decode cX10_distance 14 = .ok (.ireturn, 1) := by decide +kernel
theorem dX10_distance_15 : decode cX10_distance 15 = .ok (.aload_n 0, 1) := by decide +kernel
theorem dX10_distance_16 : decode cX10_distance 16 = .ok (.iconst 0, 1) := by decide +kernel
theorem dX10_distance_17 : decode cX10_distance 17 = .ok (.aload_n 0, 1) := by decide +kernel
theorem dX10_distance_18 : decode cX10_distance 18 = .ok (.getfield 73, 3) := by decide +kernel
theorem dX10_distance_21 : decode cX10_distance 21 = .ok (.invokevirtual 102, 3) := by decide +kernel
theorem dX10_distance_24 : decode cX10_distance 24 = .ok (.aload_n 0, 1) := by decide +kernel
theorem dX10_distance_25 : decode cX10_distance 25 = .ok (.iload_n 1, 1) := by decide +kernel
theorem dX10_distance_26 : decode cX10_distance 26 = .ok (.invokevirtual 99, 3) := by decide +kernel
theorem dX10_distance_29 : decode cX10_distance 29 = .ok (.ireturn, 1) := by decide +kernel
theorem dX10_begins_0 : decode cX10_begins 0 = .ok (.aload_n 0, 1) := by decide +kernel
theorem dX10_begins_1 : decode cX10_begins 1 = .ok (.iconst 0, 1) := by decide +kernel
theorem dX10_begins_2 : decode cX10_begins 2 = .ok (.putfield 62, 3) := by decide +kernel
theorem dX10_begins_5 : decode cX10_begins 5 = .ok (.aload_n 0, 1) := by decide +kernel
theorem dX10_begins_6 : decode cX10_begins 6 = .ok (.iload_n 1, 1) := by decide +kernel
theorem dX10_begins_7 : decode cX10_begins 7 = .ok (.invokevirtual 76, 3) := by decide +kernel
theorem dX10_begins_10 : decode cX10_begins 10 = .ok (.ifCond .ne 5, 3) := by decide +kernel
theorem dX10_begins_13 : decode cX10_begins 13 = .ok (.iconst (-1), 1) := by decide +kernel
theorem dX10_begins_14 : decode cX10_begins 14 = .ok (.ireturn, 1) := by decide +kernel
theorem dX10_begins_15 : decode cX10_begins 15 = .ok (.aload_n 0, 1) := by decide +kernel
theorem dX10_begins_16 : decode cX10_begins 16 = .ok (.iconst 0, 1) := by decide +kernel
theorem dX10_begins_17 : decode cX10_begins 17 = .ok (.aload_n 0, 1) := by decide +kernel
theorem dX10_begins_18 : decode cX10_begins 18 = .ok (.getfield 73, 3) := by decide +kernel
theorem dX10_begins_21 : decode cX10_begins 21 = .ok (.invokevirtual 102, 3) := by decide +kernel
theorem dX10_begins_24 : decode cX10_begins 24 = .ok (.aload_n 0, 1) := by decide +kernel
theorem dX10_begins_25 : decode cX10_begins 25 = .ok (.iload_n 1, 1) := by decide +kernel
theorem dX10_begins_26 : decode cX10_begins 26 = .ok (.invokevirtual 106, 3) := by decide +kernel
theorem dX10_begins_29 : decode cX10_begins 29 = .ok (.ireturn, 1) := by decide +kernel
theorem dX10_note_0 : decode cX10_note 0 = .ok (.aload_n 0, 1) := by decide +kernel
theorem dX10_note_1 : decode cX10_note 1 = .ok (.getfield 44, 3) := by decide +kernel
theorem dX10_note_4 : decode cX10_note 4 = .ok (.aload_n 0, 1) := by decide +kernel
theorem dX10_note_5 : decode cX10_note 5 = .ok (.getfield 109, 3) := by decide +kernel
theorem dX10_note_8 : decode cX10_note 8 = .ok (.iload_n 1, 1) := by decide +kernel
theorem dX10_note_9 : decode cX10_note 9 = .ok (.iastore, 1) := by decide +kernel
theorem dX10_note_10 : decode cX10_note 10 = .ok (.aload_n 0, 1) := by decide +kernel
theorem dX10_note_11 : decode cX10_note 11 = .ok (.getfield 47, 3) := by decide +kernel
theorem dX10_note_14 : decode cX10_note 14 = .ok (.aload_n 0, 1) := by decide +kernel
theorem dX10_note_15 : decode cX10_note 15 = .ok (.getfield 109, 3) := by decide +kernel
theorem dX10_note_18 : decode cX10_note 18 = .ok (.iload_n 2, 1) := by decide +kernel
theorem dX10_note_19 : decode cX10_note 19 = .ok (.iastore, 1) := by decide +kernel
theorem dX10_note_20 : decode cX10_note 20 = .ok (.aload_n 0, 1) := by decide +kernel
theorem dX10_note_21 : decode cX10_note 21 = .ok (.dup, 1) := by decide +kernel
theorem dX10_note_22 : decode cX10_note 22 = .ok (.getfield 109, 3) := by decide +kernel
theorem dX10_note_25 : decode cX10_note 25 = .ok (.iconst 1, 1) := by decide +kernel
theorem dX10_note_26 : decode cX10_note 26 = .ok (.iadd, 1) := by decide +kernel
theorem dX10_note_27 : decode cX10_note 27 = .ok (.putfield 109, 3) := by decide +kernel
theorem dX10_note_30 : decode cX10_note 30 = .ok (.return_, 1) := by decide +kernel
theorem dX10_find_0 : decode cX10_find 0 = .ok (.aload_n 0, 1) := by decide +kernel
theorem dX10_find_1 : decode cX10_find 1 = .ok (.iconst 0, 1) := by decide +kernel
theorem dX10_find_2 : decode cX10_find 2 = .ok (.aload_n 0, 1) := by decide +kernel
theorem dX10_find_3 : decode cX10_find 3 = .ok (.getfield 73, 3) := by decide +kernel
theorem dX10_find_6 : decode cX10_find 6 = .ok (.invokevirtual 102, 3) := by decide +kernel
theorem dX10_find_9 : decode cX10_find 9 = .ok (.aload_n 0, 1) := by decide +kernel
theorem dX10_find_10 : decode cX10_find 10 = .ok (.iload_n 1, 1) := by decide +kernel
theorem dX10_find_11 : decode cX10_find 11 = .ok (.invokevirtual 99, 3) := by decide +kernel
theorem dX10_find_14 : decode cX10_find 14 = .ok (.istore_n 2, 1) := by decide +kernel
theorem dX10_find_15 : decode cX10_find 15 = .ok (.aload_n 0, 1) := by decide +kernel
theorem dX10_find_16 : decode cX10_find 16 = .ok (.iconst 0, 1) := by decide +kernel
theorem dX10_find_17 : decode cX10_find 17 = .ok (.putfield 109, 3) := by decide +kernel
theorem dX10_find_20 : decode cX10_find 20 = .ok (.aload_n 0, 1) := by decide +kernel
theorem dX10_find_21 : decode cX10_find 21 = .ok (.getfield 88, 3) := by decide +kernel
theorem dX10_find_24 : decode cX10_find 24 = .ok (.istore_n 3, 1) := by decide +kernel
theorem dX10_find_25 : decode cX10_find 25 = .ok (.aload_n 0, 1) := by decide +kernel
theorem dX10_find_26 : decode cX10_find 26 = .ok (.getfield 13, 3) := by decide +kernel
theorem dX10_find_29 : decode cX10_find 29 = .ok (.iload_n 1, 1) := by decide +kernel
theorem dX10_find_30 : decode cX10_find 30 = .ok (.iaload, 1) := by decide +kernel
theorem dX10_find_31 : decode cX10_find 31 = .ok (.istore 4, 2) := by decide +kernel
theorem dX10_find_33 : decode cX10_find 33 = .ok (.iload_n 3, 1) := by decide +kernel
theorem dX10_find_34 : decode cX10_find 34 = .ok (.ifCond .gt 8, 3) := by decide +kernel
theorem dX10_find_37 : decode cX10_find 37 = .ok (.iload 4, 2) := by decide +kernel
theorem dX10_find_39 : decode cX10_find 39 = .ok (.ifCond .le 272, 3) := by decide +kernel
theorem dX10_find_42 : decode cX10_find 42 = .ok (.aload_n 0, 1) := by decide +kernel
theorem dX10_find_43 : decode cX10_find 43 = .ok (.getfield 38, 3) := by decide +kernel
theorem dX10_find_46 : decode cX10_find 46 = .ok (.bipush 13, 2) := by decide +kernel
theorem dX10_find_48 : decode cX10_find 48 = .ok (.iload_n 3, 1) := by decide +kernel
theorem dX10_find_49 : decode cX10_find 49 = .ok (.imul, 1) := by decide +kernel
theorem dX10_find_50 : decode cX10_find 50 = .ok (.iload 4, 2) := by decide +kernel
theorem dX10_find_52 : decode cX10_find 52 = .ok (.iadd, 1) := by decide +kernel
theorem dX10_find_53 : decode cX10_find 53 = .ok (.iaload, 1) := by decide +kernel
theorem dX10_find_54 : decode cX10_find 54 = .ok (.istore_n 2, 1) := by decide +kernel
theorem dX10_find_55 : decode cX10_find 55 = .ok (.iload_n 3, 1) := by decide +kernel
theorem dX10_find_56 : decode cX10_find 56 = .ok (.ifCond .le 14, 3) := by decide +kernel
theorem dX10_find_59 : decode cX10_find 59 = .ok (.aload_n 0, 1) := by decide +kernel
theorem dX10_find_60 : decode cX10_find 60 = .ok (.getfield 41, 3) := by decide +kernel
theorem dX10_find_63 : decode cX10_find 63 = .ok (.iload_n 3, 1) := by decide +kernel
theorem dX10_find_64 : decode cX10_find 64 = .ok (.iconst 1, 1) := by decide +kernel
theorem dX10_find_65 : decode cX10_find 65 = .ok (.isub, 1) := by decide +kernel
theorem dX10_find_66 : decode cX10_find 66 = .ok (.iaload, 1) := by decide +kernel
theorem dX10_find_67 : decode cX10_find 67 = .ok (.goto 4, 3) := by decide +kernel
theorem dX10_find_70 : decode cX10_find 70 = .ok (.iconst (-1), 1) := by decide +kernel
theorem dX10_find_71 : decode cX10_find 71 = .ok (.istore 5, 2) := by decide +kernel
theorem dX10_find_73 : decode cX10_find 73 = .ok (.iload 4, 2) := by decide +kernel
theorem dX10_find_75 : decode cX10_find 75 = .ok (.ifCond .le 20, 3) := by decide +kernel
theorem dX10_find_78 : decode cX10_find 78 = .ok (.aload_n 0, 1) := by decide +kernel
theorem dX10_find_79 : decode cX10_find 79 = .ok (.getfield 16, 3) := by decide +kernel
theorem dX10_find_82 : decode cX10_find 82 = .ok (.bipush 12, 2) := by decide +kernel
theorem dX10_find_84 : decode cX10_find 84 = .ok (.iload_n 1, 1) := by decide +kernel
theorem dX10_find_85 : decode cX10_find 85 = .ok (.imul, 1) := by decide +kernel
theorem dX10_find_86 : decode cX10_find 86 = .ok (.iload 4, 2) := by decide +kernel
theorem dX10_find_88 : decode cX10_find 88 = .ok (.iadd, 1) := by decide +kernel
theorem dX10_find_89 : decode cX10_find 89 = .ok (.iconst 1, 1) := by decide +kernel
theorem dX10_find_90 : decode cX10_find 90 = .ok (.isub, 1) := by decide +kernel
theorem dX10_find_91 : decode cX10_find 91 = .ok (.iaload, 1) := by decide +kernel
theorem dX10_find_92 : decode cX10_find 92 = .ok (.goto 5, 3) := by decide +kernel
theorem dX10_find_95 : decode cX10_find 95 = .ok (.bipush (-2), 2) := by decide +kernel
theorem dX10_find_97 : decode cX10_find 97 = .ok (.istore 6, 2) := by decide +kernel
theorem dX10_find_99 : decode cX10_find 99 = .ok (.iload_n 3, 1) := by decide +kernel
theorem dX10_find_100 : decode cX10_find 100 = .ok (.ifCond .le 27, 3) := by decide +kernel
theorem dX10_find_103 : decode cX10_find 103 = .ok (.iload 4, 2) := by decide +kernel
theorem dX10_find_105 : decode cX10_find 105 = .ok (.ifCond .le 22, 3) := by decide +kernel
theorem dX10_find_108 : decode cX10_find 108 = .ok (.aload_n 0, 1) := by decide +kernel
theorem dX10_find_109 : decode cX10_find 109 = .ok (.getfield 38, 3) := by decide +kernel
theorem dX10_find_112 : decode cX10_find 112 = .ok (.bipush 13, 2) := by decide +kernel
theorem dX10_find_114 : decode cX10_find 114 = .ok (.iload_n 3, 1) := by decide +kernel
theorem dX10_find_115 : decode cX10_find 115 = .ok (.iconst 1, 1) := by decide +kernel
theorem dX10_find_116 : decode cX10_find 116 = .ok (.isub, 1) := by decide +kernel
theorem dX10_find_117 : decode cX10_find 117 = .ok (.imul, 1) := by decide +kernel
theorem dX10_find_118 : decode cX10_find 118 = .ok (.iload 4, 2) := by decide +kernel
theorem dX10_find_120 : decode cX10_find 120 = .ok (.iadd, 1) := by decide +kernel
theorem dX10_find_121 : decode cX10_find 121 = .ok (.iconst 1, 1) := by decide +kernel
theorem dX10_find_122 : decode cX10_find 122 = .ok (.isub, 1) := by decide +kernel
theorem dX10_find_123 : decode cX10_find 123 = .ok (.iaload, 1) := by decide +kernel
theorem dX10_find_124 : decode cX10_find 124 = .ok (.goto 5, 3) := by decide +kernel
theorem dX10_find_127 : decode cX10_find 127 = .ok (.ldc 91, 2) := by decide +kernel
theorem dX10_find_129 : decode cX10_find 129 = .ok (.istore 7, 2) := by decide +kernel
theorem dX10_find_131 : decode cX10_find 131 = .ok (.iload 5, 2) := by decide +kernel
theorem dX10_find_133 : decode cX10_find 133 = .ok (.iload 6, 2) := by decide +kernel
theorem dX10_find_135 : decode cX10_find 135 = .ok (.if_icmp .ne 18, 3) := by decide +kernel
theorem dX10_find_138 : decode cX10_find 138 = .ok (.iload 7, 2) := by decide +kernel
theorem dX10_find_140 : decode cX10_find 140 = .ok (.iload_n 2, 1) := by decide +kernel
theorem dX10_find_141 : decode cX10_find 141 = .ok (.if_icmp .ne 12, 3) := by decide +kernel
theorem dX10_find_144 : decode cX10_find 144 = .ok (.iinc 3 (-1), 3) := by decide +kernel
theorem dX10_find_147 : decode cX10_find 147 = .ok (.iinc 4 (-1), 3) := by decide +kernel
theorem dX10_find_150 : decode cX10_find 150 = .ok (.goto 158, 3) := by decide +kernel
theorem dX10_find_153 : decode cX10_find 153 = .ok (.iload_n 3, 1) := by decide +kernel
theorem dX10_find_154 : decode cX10_find 154 = .ok (.ifCond .le 47, 3) := by decide +kernel
theorem dX10_find_157 : decode cX10_find 157 = .ok (.iload 4, 2) := by decide +kernel
theorem dX10_find_159 : decode cX10_find 159 = .ok (.ifCond .le 42, 3) := by decide +kernel
theorem dX10_find_162 : decode cX10_find 162 = .ok (.iload 5, 2) := by decide +kernel
theorem dX10_find_164 : decode cX10_find 164 = .ok (.iload 6, 2) := by decide +kernel
theorem dX10_find_166 : decode cX10_find 166 = .ok (.if_icmp .eq 35, 3) := by decide +kernel
theorem dX10_find_169 : decode cX10_find 169 = .ok (.iload 7, 2) := by decide +kernel
theorem dX10_find_171 : decode cX10_find 171 = .ok (.aload_n 0, 1) := by decide +kernel
theorem dX10_find_172 : decode cX10_find 172 = .ok (.iload 5, 2) := by decide +kernel
theorem dX10_find_174 : decode cX10_find 174 = .ok (.iload 6, 2) := by decide +kernel
theorem dX10_find_176 : decode cX10_find 176 = .ok (.invokevirtual 92, 3) := by decide +kernel
theorem dX10_find_179 : decode cX10_find 179 = .ok (.iadd, 1) := by decide +kernel
theorem dX10_find_180 : decode cX10_find 180 = .ok (.iload_n 2, 1) := by decide +kernel
theorem dX10_find_181 : decode cX10_find 181 = .ok (.if_icmp .ne 20, 3) := by decide +kernel
theorem dX10_find_184 : decode cX10_find 184 = .ok (.aload_n 0, 1) := by decide +kernel
theorem dX10_find_185 : decode cX10_find 185 = .ok (.iconst 2, 1) := by decide +kernel
theorem dX10_find_186 : decode cX10_find 186 = .ok (.iload_n 3, 1) := by decide +kernel
theorem dX10_find_187 : decode cX10_find 187 = .ok (.iconst 1, 1) := by decide +kernel
theorem dX10_find_188 : decode cX10_find 188 = .ok (.isub, 1) := by decide +kernel
theorem dX10_find_189 : decode cX10_find 189 = .ok (.invokevirtual 112, 3) := by decide +kernel
theorem dX10_find_192 : decode cX10_find 192 = .ok (.iinc 3 (-1), 3) := by decide +kernel
theorem dX10_find_195 : decode cX10_find 195 = .ok (.iinc 4 (-1), 3) := by decide +kernel
theorem dX10_find_198 : decode cX10_find 198 = .ok (.goto 110, 3) := by decide +kernel
theorem dX10_find_201 : decode cX10_find 201 = .ok (.aload_n 0, 1) := by decide +kernel
theorem dX10_find_202 : decode cX10_find 202 = .ok (.iload_n 1, 1) := by decide +kernel
theorem dX10_find_203 : decode cX10_find 203 = .ok (.iload_n 3, 1) := by decide +kernel
theorem dX10_find_204 : decode cX10_find 204 = .ok (.iload 4, 2) := by decide +kernel
theorem dX10_find_206 : decode cX10_find 206 = .ok (.invokevirtual 96, 3) := by decide +kernel
theorem dX10_find_209 : decode cX10_find 209 = .ok (.ifCond .eq 47, 3) := by decide +kernel
theorem dX10_find_212 : decode cX10_find 212 = .ok (.aload_n 0, 1) := by decide +kernel
theorem dX10_find_213 : decode cX10_find 213 = .ok (.getfield 38, 3) := by decide +kernel
theorem dX10_find_216 : decode cX10_find 216 = .ok (.bipush 13, 2) := by decide +kernel
theorem dX10_find_218 : decode cX10_find 218 = .ok (.iload_n 3, 1) := by decide +kernel
theorem dX10_find_219 : decode cX10_find 219 = .ok (.iconst 2, 1) := by decide +kernel
theorem dX10_find_220 : decode cX10_find 220 = .ok (.isub, 1) := by decide +kernel
theorem dX10_find_221 : decode cX10_find 221 = .ok (.imul, 1) := by decide +kernel
theorem dX10_find_222 : decode cX10_find 222 = .ok (.iload 4, 2) := by decide +kernel
theorem dX10_find_224 : decode cX10_find 224 = .ok (.iadd, 1) := by decide +kernel
theorem dX10_find_225 : decode cX10_find 225 = .ok (.iconst 2, 1) := by decide +kernel
theorem dX10_find_226 : decode cX10_find 226 = .ok (.isub, 1) := by decide +kernel
theorem dX10_find_227 : decode cX10_find 227 = .ok (.iaload, 1) := by decide +kernel
theorem dX10_find_228 : decode cX10_find 228 = .ok (.aload_n 0, 1) := by decide +kernel
theorem dX10_find_229 : decode cX10_find 229 = .ok (.getfield 22, 3) := by decide +kernel
theorem dX10_find_232 : decode cX10_find 232 = .ok (.iconst 3, 1) := by decide +kernel
theorem dX10_find_233 : decode cX10_find 233 = .ok (.iaload, 1) := by decide +kernel
theorem dX10_find_234 : decode cX10_find 234 = .ok (.iadd, 1) := by decide +kernel
theorem dX10_find_235 : decode cX10_find 235 = .ok (.iload_n 2, 1) := by decide +kernel
theorem dX10_find_236 : decode cX10_find 236 = .ok (.if_icmp .ne 20, 3) := by decide +kernel
theorem dX10_find_239 : decode cX10_find 239 = .ok (.aload_n 0, 1) := by decide +kernel
theorem dX10_find_240 : decode cX10_find 240 = .ok (.iconst 3, 1) := by decide +kernel
theorem dX10_find_241 : decode cX10_find 241 = .ok (.iload_n 3, 1) := by decide +kernel
theorem dX10_find_242 : decode cX10_find 242 = .ok (.iconst 2, 1) := by decide +kernel
theorem dX10_find_243 : decode cX10_find 243 = .ok (.isub, 1) := by decide +kernel
theorem dX10_find_244 : decode cX10_find 244 = .ok (.invokevirtual 112, 3) := by decide +kernel
theorem dX10_find_247 : decode cX10_find 247 = .ok (.iinc 3 (-2), 3) := by decide +kernel
theorem dX10_find_250 : decode cX10_find 250 = .ok (.iinc 4 (-2), 3) := by decide +kernel
theorem dX10_find_253 : decode cX10_find 253 = .ok (.goto 55, 3) := by decide +kernel
theorem dX10_find_256 : decode cX10_find 256 = .ok (.iload_n 3, 1) := by decide +kernel
theorem dX10_find_257 : decode cX10_find 257 = .ok (.ifCond .le 42, 3) := by decide +kernel
theorem dX10_find_260 : decode cX10_find 260 = .ok (.aload_n 0, 1) := by decide +kernel
theorem dX10_find_261 : decode cX10_find 261 = .ok (.getfield 38, 3) := by decide +kernel
theorem dX10_find_264 : decode cX10_find 264 = .ok (.bipush 13, 2) := by decide +kernel
theorem dX10_find_266 : decode cX10_find 266 = .ok (.iload_n 3, 1) := by decide +kernel
theorem dX10_find_267 : decode cX10_find 267 = .ok (.iconst 1, 1) := by decide +kernel
theorem dX10_find_268 : decode cX10_find 268 = .ok (.isub, 1) := by decide +kernel
theorem dX10_find_269 : decode cX10_find 269 = .ok (.imul, 1) := by decide +kernel
theorem dX10_find_270 : decode cX10_find 270 = .ok (.iload 4, 2) := by decide +kernel
theorem dX10_find_272 : decode cX10_find 272 = .ok (.iadd, 1) := by decide +kernel
theorem dX10_find_273 : decode cX10_find 273 = .ok (.iaload, 1) := by decide +kernel
theorem dX10_find_274 : decode cX10_find 274 = .ok (.aload_n 0, 1) := by decide +kernel
theorem dX10_find_275 : decode cX10_find 275 = .ok (.getfield 22, 3) := by decide +kernel
theorem dX10_find_278 : decode cX10_find 278 = .ok (.iconst 1, 1) := by decide +kernel
theorem dX10_find_279 : decode cX10_find 279 = .ok (.iaload, 1) := by decide +kernel
theorem dX10_find_280 : decode cX10_find 280 = .ok (.iadd, 1) := by decide +kernel
theorem dX10_find_281 : decode cX10_find 281 = .ok (.iload_n 2, 1) := by decide +kernel
theorem dX10_find_282 : decode cX10_find 282 = .ok (.if_icmp .ne 17, 3) := by decide +kernel
theorem dX10_find_285 : decode cX10_find 285 = .ok (.aload_n 0, 1) := by decide +kernel
theorem dX10_find_286 : decode cX10_find 286 = .ok (.iconst 1, 1) := by decide +kernel
theorem dX10_find_287 : decode cX10_find 287 = .ok (.iload_n 3, 1) := by decide +kernel
theorem dX10_find_288 : decode cX10_find 288 = .ok (.iconst 1, 1) := by decide +kernel
theorem dX10_find_289 : decode cX10_find 289 = .ok (.isub, 1) := by decide +kernel
theorem dX10_find_290 : decode cX10_find 290 = .ok (.invokevirtual 112, 3) := by decide +kernel
theorem dX10_find_293 : decode cX10_find 293 = .ok (.iinc 3 (-1), 3) := by decide +kernel
theorem dX10_find_296 : decode cX10_find 296 = .ok (.goto 12, 3) := by decide +kernel
theorem dX10_find_299 : decode cX10_find 299 = .ok (.aload_n 0, 1) := by decide +kernel
theorem dX10_find_300 : decode cX10_find 300 = .ok (.iconst 0, 1) := by decide +kernel
theorem dX10_find_301 : decode cX10_find 301 = .ok (.iload_n 3, 1) := by decide +kernel
theorem dX10_find_302 : decode cX10_find 302 = .ok (.invokevirtual 112, 3) := by decide +kernel
theorem dX10_find_305 : decode cX10_find 305 = .ok (.iinc 4 (-1), 3) := by decide +kernel
theorem dX10_find_308 : decode cX10_find 308 = .ok (.goto (-275), 3) := by decide +kernel
theorem dX10_find_311 : decode cX10_find 311 = .ok (.return_, 1) := by decide +kernel
theorem dX10_edit_0 : decode cX10_edit 0 = .ok (.aload_n 0, 1) := by decide +kernel
theorem dX10_edit_1 : decode cX10_edit 1 = .ok (.iconst 0, 1) := by decide +kernel
theorem dX10_edit_2 : decode cX10_edit 2 = .ok (.putfield 62, 3) := by decide +kernel
theorem dX10_edit_5 : decode cX10_edit 5 = .ok (.aload_n 0, 1) := by decide +kernel
theorem dX10_edit_6 : decode cX10_edit 6 = .ok (.iload_n 1, 1) := by decide +kernel
theorem dX10_edit_7 : decode cX10_edit 7 = .ok (.invokevirtual 76, 3) := by decide +kernel
theorem dX10_edit_10 : decode cX10_edit 10 = .ok (.ifCond .ne 5, 3) := by decide +kernel
theorem dX10_edit_13 : decode cX10_edit 13 = .ok (.iconst (-1), 1) := by decide +kernel
theorem dX10_edit_14 : decode cX10_edit 14 = .ok (.ireturn, 1) := by decide +kernel
theorem dX10_edit_15 : decode cX10_edit 15 = .ok (.aload_n 0, 1) := by decide +kernel
theorem dX10_edit_16 : decode cX10_edit 16 = .ok (.iload_n 1, 1) := by decide +kernel
theorem dX10_edit_17 : decode cX10_edit 17 = .ok (.invokevirtual 115, 3) := by decide +kernel
theorem dX10_edit_20 : decode cX10_edit 20 = .ok (.iload_n 2, 1) := by decide +kernel
theorem dX10_edit_21 : decode cX10_edit 21 = .ok (.iconst (-1), 1) := by decide +kernel
theorem dX10_edit_22 : decode cX10_edit 22 = .ok (.if_icmp .ne 10, 3) := by decide +kernel
theorem dX10_edit_25 : decode cX10_edit 25 = .ok (.aload_n 0, 1) := by decide +kernel
theorem dX10_edit_26 : decode cX10_edit 26 = .ok (.getfield 109, 3) := by decide +kernel
theorem dX10_edit_29 : decode cX10_edit 29 = .ok (.goto 34, 3) := by decide +kernel
theorem dX10_edit_32 : decode cX10_edit 32 = .ok (.iload_n 2, 1) := by decide +kernel
theorem dX10_edit_33 : decode cX10_edit 33 = .ok (.iconst 0, 1) := by decide +kernel
theorem dX10_edit_34 : decode cX10_edit 34 = .ok (.aload_n 0, 1) := by decide +kernel
theorem dX10_edit_35 : decode cX10_edit 35 = .ok (.getfield 109, 3) := by decide +kernel
theorem dX10_edit_38 : decode cX10_edit 38 = .ok (.iconst 1, 1) := by decide +kernel
theorem dX10_edit_39 : decode cX10_edit 39 = .ok (.isub, 1) := by decide +kernel
theorem dX10_edit_40 : decode cX10_edit 40 = .ok (.invokestatic 69, 3) := by decide +kernel
theorem dX10_edit_43 : decode cX10_edit 43 = .ok (.ifCond .eq 19, 3) := by decide +kernel
theorem dX10_edit_46 : decode cX10_edit 46 = .ok (.aload_n 0, 1) := by decide +kernel
theorem dX10_edit_47 : decode cX10_edit 47 = .ok (.getfield 44, 3) := by decide +kernel
theorem dX10_edit_50 : decode cX10_edit 50 = .ok (.aload_n 0, 1) := by decide +kernel
theorem dX10_edit_51 : decode cX10_edit 51 = .ok (.getfield 109, 3) := by decide +kernel
theorem dX10_edit_54 : decode cX10_edit 54 = .ok (.iconst 1, 1) := by decide +kernel
theorem dX10_edit_55 : decode cX10_edit 55 = .ok (.isub, 1) := by decide +kernel
theorem dX10_edit_56 : decode cX10_edit 56 = .ok (.iload_n 2, 1) := by decide +kernel
theorem dX10_edit_57 : decode cX10_edit 57 = .ok (.isub, 1) := by decide +kernel
theorem dX10_edit_58 : decode cX10_edit 58 = .ok (.iaload, 1) := by decide +kernel
theorem dX10_edit_59 : decode cX10_edit 59 = .ok (.goto 4, 3) := by decide +kernel
theorem dX10_edit_62 : decode cX10_edit 62 = .ok (.iconst (-1), 1) := by decide +kernel
theorem dX10_edit_63 : decode cX10_edit 63 = .ok (.ireturn, 1) := by decide +kernel
theorem dX10_place_0 : decode cX10_place 0 = .ok (.aload_n 0, 1) := by decide +kernel
theorem dX10_place_1 : decode cX10_place 1 = .ok (.iconst 0, 1) := by decide +kernel
theorem dX10_place_2 : decode cX10_place 2 = .ok (.putfield 62, 3) := by decide +kernel
theorem dX10_place_5 : decode cX10_place 5 = .ok (.aload_n 0, 1) := by decide +kernel
theorem dX10_place_6 : decode cX10_place 6 = .ok (.iload_n 1, 1) := by decide +kernel
theorem dX10_place_7 : decode cX10_place 7 = .ok (.invokevirtual 76, 3) := by decide +kernel
theorem dX10_place_10 : decode cX10_place 10 = .ok (.ifCond .ne 5, 3) := by decide +kernel
theorem dX10_place_13 : decode cX10_place 13 = .ok (.iconst (-1), 1) := by decide +kernel
theorem dX10_place_14 : decode cX10_place 14 = .ok (.ireturn, 1) := by decide +kernel
theorem dX10_place_15 : decode cX10_place 15 = .ok (.aload_n 0, 1) := by decide +kernel
theorem dX10_place_16 : decode cX10_place 16 = .ok (.iload_n 1, 1) := by decide +kernel
theorem dX10_place_17 : decode cX10_place 17 = .ok (.invokevirtual 115, 3) := by decide +kernel
theorem dX10_place_20 : decode cX10_place 20 = .ok (.iload_n 2, 1) := by decide +kernel
theorem dX10_place_21 : decode cX10_place 21 = .ok (.iconst 0, 1) := by decide +kernel
theorem dX10_place_22 : decode cX10_place 22 = .ok (.aload_n 0, 1) := by decide +kernel
theorem dX10_place_23 : decode cX10_place 23 = .ok (.getfield 109, 3) := by decide +kernel
theorem dX10_place_26 : decode cX10_place 26 = .ok (.iconst 1, 1) := by decide +kernel
theorem dX10_place_27 : decode cX10_place 27 = .ok (.isub, 1) := by decide +kernel
theorem dX10_place_28 : decode cX10_place 28 = .ok (.invokestatic 69, 3) := by decide +kernel
theorem dX10_place_31 : decode cX10_place 31 = .ok (.ifCond .eq 19, 3) := by decide +kernel
theorem dX10_place_34 : decode cX10_place 34 = .ok (.aload_n 0, 1) := by decide +kernel
theorem dX10_place_35 : decode cX10_place 35 = .ok (.getfield 47, 3) := by decide +kernel
theorem dX10_place_38 : decode cX10_place 38 = .ok (.aload_n 0, 1) := by decide +kernel
theorem dX10_place_39 : decode cX10_place 39 = .ok (.getfield 109, 3) := by decide +kernel
theorem dX10_place_42 : decode cX10_place 42 = .ok (.iconst 1, 1) := by decide +kernel
theorem dX10_place_43 : decode cX10_place 43 = .ok (.isub, 1) := by decide +kernel
theorem dX10_place_44 : decode cX10_place 44 = .ok (.iload_n 2, 1) := by decide +kernel
theorem dX10_place_45 : decode cX10_place 45 = .ok (.isub, 1) := by decide +kernel
theorem dX10_place_46 : decode cX10_place 46 = .ok (.iaload, 1) := by decide +kernel
theorem dX10_place_47 : decode cX10_place 47 = .ok (.goto 4, 3) := by decide +kernel
theorem dX10_place_50 : decode cX10_place 50 = .ok (.iconst (-1), 1) := by decide +kernel
theorem dX10_place_51 : decode cX10_place 51 = .ok (.ireturn, 1) := by decide +kernel
theorem dX10_look_0 : decode cX10_look 0 = .ok (.aload_n 0, 1) := by decide +kernel
theorem dX10_look_1 : decode cX10_look 1 = .ok (.iconst 0, 1) := by decide +kernel
theorem dX10_look_2 : decode cX10_look 2 = .ok (.aload_n 0, 1) := by decide +kernel
theorem dX10_look_3 : decode cX10_look 3 = .ok (.getfield 73, 3) := by decide +kernel
theorem dX10_look_6 : decode cX10_look 6 = .ok (.invokevirtual 102, 3) := by decide +kernel
theorem dX10_look_9 : decode cX10_look 9 = .ok (.aload_n 0, 1) := by decide +kernel
theorem dX10_look_10 : decode cX10_look 10 = .ok (.iconst 0, 1) := by decide +kernel
theorem dX10_look_11 : decode cX10_look 11 = .ok (.putfield 119, 3) := by decide +kernel
theorem dX10_look_14 : decode cX10_look 14 = .ok (.iconst 0, 1) := by decide +kernel
theorem dX10_look_15 : decode cX10_look 15 = .ok (.istore_n 3, 1) := by decide +kernel
theorem dX10_look_16 : decode cX10_look 16 = .ok (.iload_n 3, 1) := by decide +kernel
theorem dX10_look_17 : decode cX10_look 17 = .ok (.aload_n 0, 1) := by decide +kernel
theorem dX10_look_18 : decode cX10_look 18 = .ok (.getfield 66, 3) := by decide +kernel
theorem dX10_look_21 : decode cX10_look 21 = .ok (.if_icmp .ge 141, 3) := by decide +kernel
theorem dX10_look_24 : decode cX10_look 24 = .ok (.iload_n 2, 1) := by decide +kernel
theorem dX10_look_25 : decode cX10_look 25 = .ok (.ifCond .eq 11, 3) := by decide +kernel
theorem dX10_look_28 : decode cX10_look 28 = .ok (.aload_n 0, 1) := by decide +kernel
theorem dX10_look_29 : decode cX10_look 29 = .ok (.iload_n 3, 1) := by decide +kernel
theorem dX10_look_30 : decode cX10_look 30 = .ok (.invokevirtual 106, 3) := by decide +kernel
theorem dX10_look_33 : decode cX10_look 33 = .ok (.goto 8, 3) := by decide +kernel
theorem dX10_look_36 : decode cX10_look 36 = .ok (.aload_n 0, 1) := by decide +kernel
theorem dX10_look_37 : decode cX10_look 37 = .ok (.iload_n 3, 1) := by decide +kernel
theorem dX10_look_38 : decode cX10_look 38 = .ok (.invokevirtual 99, 3) := by decide +kernel
theorem dX10_look_41 : decode cX10_look 41 = .ok (.istore 4, 2) := by decide +kernel
theorem dX10_look_43 : decode cX10_look 43 = .ok (.iload 4, 2) := by decide +kernel
theorem dX10_look_45 : decode cX10_look 45 = .ok (.iload_n 1, 1) := by decide +kernel
theorem dX10_look_46 : decode cX10_look 46 = .ok (.if_icmp .le 6, 3) := by decide +kernel
theorem dX10_look_49 : decode cX10_look 49 = .ok (.goto 107, 3) := by decide +kernel
theorem dX10_look_52 : decode cX10_look 52 = .ok (.aload_n 0, 1) := by decide +kernel
theorem dX10_look_53 : decode cX10_look 53 = .ok (.getfield 119, 3) := by decide +kernel
theorem dX10_look_56 : decode cX10_look 56 = .ok (.istore 5, 2) := by decide +kernel
theorem dX10_look_58 : decode cX10_look 58 = .ok (.iload 5, 2) := by decide +kernel
theorem dX10_look_60 : decode cX10_look 60 = .ok (.ifCond .le 69, 3) := by decide +kernel
theorem dX10_look_63 : decode cX10_look 63 = .ok (.aload_n 0, 1) := by decide +kernel
theorem dX10_look_64 : decode cX10_look 64 = .ok (.iload_n 3, 1) := by decide +kernel
theorem dX10_look_65 : decode cX10_look 65 = .ok (.iload 4, 2) := by decide +kernel
theorem dX10_look_67 : decode cX10_look 67 = .ok (.aload_n 0, 1) := by decide +kernel
theorem dX10_look_68 : decode cX10_look 68 = .ok (.getfield 50, 3) := by decide +kernel
theorem dX10_look_71 : decode cX10_look 71 = .ok (.iload 5, 2) := by decide +kernel
theorem dX10_look_73 : decode cX10_look 73 = .ok (.iconst 1, 1) := by decide +kernel
theorem dX10_look_74 : decode cX10_look 74 = .ok (.isub, 1) := by decide +kernel
theorem dX10_look_75 : decode cX10_look 75 = .ok (.iaload, 1) := by decide +kernel
theorem dX10_look_76 : decode cX10_look 76 = .ok (.aload_n 0, 1) := by decide +kernel
theorem dX10_look_77 : decode cX10_look 77 = .ok (.getfield 53, 3) := by decide +kernel
theorem dX10_look_80 : decode cX10_look 80 = .ok (.iload 5, 2) := by decide +kernel
theorem dX10_look_82 : decode cX10_look 82 = .ok (.iconst 1, 1) := by decide +kernel
theorem dX10_look_83 : decode cX10_look 83 = .ok (.isub, 1) := by decide +kernel
theorem dX10_look_84 : decode cX10_look 84 = .ok (.iaload, 1) := by decide +kernel
theorem dX10_look_85 : decode cX10_look 85 = .ok (.invokevirtual 122, 3) := by decide +kernel
theorem dX10_look_88 : decode cX10_look 88 = .ok (.ifCond .eq 41, 3) := by decide +kernel
theorem dX10_look_91 : decode cX10_look 91 = .ok (.aload_n 0, 1) := by decide +kernel
theorem dX10_look_92 : decode cX10_look 92 = .ok (.getfield 50, 3) := by decide +kernel
theorem dX10_look_95 : decode cX10_look 95 = .ok (.iload 5, 2) := by decide +kernel
theorem dX10_look_97 : decode cX10_look 97 = .ok (.aload_n 0, 1) := by decide +kernel
theorem dX10_look_98 : decode cX10_look 98 = .ok (.getfield 50, 3) := by decide +kernel
theorem dX10_look_101 : decode cX10_look 101 = .ok (.iload 5, 2) := by decide +kernel
theorem dX10_look_103 : decode cX10_look 103 = .ok (.iconst 1, 1) := by decide +kernel
theorem dX10_look_104 : decode cX10_look 104 = .ok (.isub, 1) := by decide +kernel
theorem dX10_look_105 : decode cX10_look 105 = .ok (.iaload, 1) := by decide +kernel
theorem dX10_look_106 : decode cX10_look 106 = .ok (.iastore, 1) := by decide +kernel
theorem dX10_look_107 : decode cX10_look 107 = .ok (.aload_n 0, 1) := by decide +kernel
theorem dX10_look_108 : decode cX10_look 108 = .ok (.getfield 53, 3) := by decide +kernel
theorem dX10_look_111 : decode cX10_look 111 = .ok (.iload 5, 2) := by decide +kernel
theorem dX10_look_113 : decode cX10_look 113 = .ok (.aload_n 0, 1) := by decide +kernel
theorem dX10_look_114 : decode cX10_look 114 = .ok (.getfield 53, 3) := by decide +kernel
theorem dX10_look_117 : decode cX10_look 117 = .ok (.iload 5, 2) := by decide +kernel
theorem dX10_look_119 : decode cX10_look 119 = .ok (.iconst 1, 1) := by decide +kernel
theorem dX10_look_120 : decode cX10_look 120 = .ok (.isub, 1) := by decide +kernel
theorem dX10_look_121 : decode cX10_look 121 = .ok (.iaload, 1) := by decide +kernel
theorem dX10_look_122 : decode cX10_look 122 = .ok (.iastore, 1) := by decide +kernel
theorem dX10_look_123 : decode cX10_look 123 = .ok (.iinc 5 (-1), 3) := by decide +kernel
theorem dX10_look_126 : decode cX10_look 126 = .ok (.goto (-68), 3) := by decide +kernel
theorem dX10_look_129 : decode cX10_look 129 = .ok (.aload_n 0, 1) := by decide +kernel
theorem dX10_look_130 : decode cX10_look 130 = .ok (.getfield 50, 3) := by decide +kernel
theorem dX10_look_133 : decode cX10_look 133 = .ok (.iload 5, 2) := by decide +kernel
theorem dX10_look_135 : decode cX10_look 135 = .ok (.iload_n 3, 1) := by decide +kernel
theorem dX10_look_136 : decode cX10_look 136 = .ok (.iastore, 1) := by decide +kernel
theorem dX10_look_137 : decode cX10_look 137 = .ok (.aload_n 0, 1) := by decide +kernel
theorem dX10_look_138 : decode cX10_look 138 = .ok (.getfield 53, 3) := by decide +kernel
theorem dX10_look_141 : decode cX10_look 141 = .ok (.iload 5, 2) := by decide +kernel
theorem dX10_look_143 : decode cX10_look 143 = .ok (.iload 4, 2) := by decide +kernel
theorem dX10_look_145 : decode cX10_look 145 = .ok (.iastore, 1) := by decide +kernel
theorem dX10_look_146 : decode cX10_look 146 = .ok (.aload_n 0, 1) := by decide +kernel
theorem dX10_look_147 : decode cX10_look 147 = .ok (.dup, 1) := by decide +kernel
theorem dX10_look_148 : decode cX10_look 148 = .ok (.getfield 119, 3) := by decide +kernel
theorem dX10_look_151 : decode cX10_look 151 = .ok (.iconst 1, 1) := by decide +kernel
theorem dX10_look_152 : decode cX10_look 152 = .ok (.iadd, 1) := by decide +kernel
theorem dX10_look_153 : decode cX10_look 153 = .ok (.putfield 119, 3) := by decide +kernel
theorem dX10_look_156 : decode cX10_look 156 = .ok (.iinc 3 1, 3) := by decide +kernel
theorem dX10_look_159 : decode cX10_look 159 = .ok (.goto (-143), 3) := by decide +kernel
theorem dX10_look_162 : decode cX10_look 162 = .ok (.return_, 1) := by decide +kernel
theorem dX10_isBefore_0 : decode cX10_isBefore 0 = .ok (.iload_n 2, 1) := by decide +kernel
theorem dX10_isBefore_1 : decode cX10_isBefore 1 = .ok (.iload 4, 2) := by decide +kernel
theorem dX10_isBefore_3 : decode cX10_isBefore 3 = .ok (.if_icmp .eq 15, 3) := by decide +kernel
theorem dX10_isBefore_6 : decode cX10_isBefore 6 = .ok (.iload_n 2, 1) := by decide +kernel
theorem dX10_isBefore_7 : decode cX10_isBefore 7 = .ok (.iload 4, 2) := by decide +kernel
theorem dX10_isBefore_9 : decode cX10_isBefore 9 = .ok (.if_icmp .ge 7, 3) := by decide +kernel
theorem dX10_isBefore_12 : decode cX10_isBefore 12 = .ok (.iconst 1, 1) := by decide +kernel
theorem dX10_isBefore_13 : decode cX10_isBefore 13 = .ok (.goto 4, 3) := by decide +kernel
theorem dX10_isBefore_16 : decode cX10_isBefore 16 = .ok (.iconst 0, 1) := by decide +kernel
theorem dX10_isBefore_17 : decode cX10_isBefore 17 = .ok (.ireturn, 1) := by decide +kernel
theorem dX10_isBefore_18 : decode cX10_isBefore 18 = .ok (.aload_n 0, 1) := by decide +kernel
theorem dX10_isBefore_19 : decode cX10_isBefore 19 = .ok (.getfield 19, 3) := by decide +kernel
theorem dX10_isBefore_22 : decode cX10_isBefore 22 = .ok (.iload_n 1, 1) := by decide +kernel
theorem dX10_isBefore_23 : decode cX10_isBefore 23 = .ok (.iaload, 1) := by decide +kernel
theorem dX10_isBefore_24 : decode cX10_isBefore 24 = .ok (.aload_n 0, 1) := by decide +kernel
theorem dX10_isBefore_25 : decode cX10_isBefore 25 = .ok (.getfield 19, 3) := by decide +kernel
theorem dX10_isBefore_28 : decode cX10_isBefore 28 = .ok (.iload_n 3, 1) := by decide +kernel
theorem dX10_isBefore_29 : decode cX10_isBefore 29 = .ok (.iaload, 1) := by decide +kernel
theorem dX10_isBefore_30 : decode cX10_isBefore 30 = .ok (.if_icmp .eq 26, 3) := by decide +kernel
theorem dX10_isBefore_33 : decode cX10_isBefore 33 = .ok (.aload_n 0, 1) := by decide +kernel
theorem dX10_isBefore_34 : decode cX10_isBefore 34 = .ok (.getfield 19, 3) := by decide +kernel
theorem dX10_isBefore_37 : decode cX10_isBefore 37 = .ok (.iload_n 1, 1) := by decide +kernel
theorem dX10_isBefore_38 : decode cX10_isBefore 38 = .ok (.iaload, 1) := by decide +kernel
theorem dX10_isBefore_39 : decode cX10_isBefore 39 = .ok (.aload_n 0, 1) := by decide +kernel
theorem dX10_isBefore_40 : decode cX10_isBefore 40 = .ok (.getfield 19, 3) := by decide +kernel
theorem dX10_isBefore_43 : decode cX10_isBefore 43 = .ok (.iload_n 3, 1) := by decide +kernel
theorem dX10_isBefore_44 : decode cX10_isBefore 44 = .ok (.iaload, 1) := by decide +kernel
theorem dX10_isBefore_45 : decode cX10_isBefore 45 = .ok (.if_icmp .le 7, 3) := by decide +kernel
theorem dX10_isBefore_48 : decode cX10_isBefore 48 = .ok (.iconst 1, 1) := by decide +kernel
theorem dX10_isBefore_49 : decode cX10_isBefore 49 = .ok (.goto 13, 3) := by decide +kernel
theorem dX10_isBefore_52 : decode cX10_isBefore 52 = .ok (.iconst 0, 1) := by decide +kernel
theorem dX10_isBefore_53 : decode cX10_isBefore 53 = .ok (.goto 9, 3) := by decide +kernel
theorem dX10_isBefore_56 : decode cX10_isBefore 56 = .ok (.aload_n 0, 1) := by decide +kernel
theorem dX10_isBefore_57 : decode cX10_isBefore 57 = .ok (.iload_n 1, 1) := by decide +kernel
theorem dX10_isBefore_58 : decode cX10_isBefore 58 = .ok (.iload_n 3, 1) := by decide +kernel
theorem dX10_isBefore_59 : decode cX10_isBefore 59 = .ok (.invokevirtual 80, 3) := by decide +kernel
theorem dX10_isBefore_62 : decode cX10_isBefore 62 = .ok (.ireturn, 1) := by decide +kernel
theorem dX10_suggest_0 : decode cX10_suggest 0 = .ok (.aload_n 0, 1) := by decide +kernel
theorem dX10_suggest_1 : decode cX10_suggest 1 = .ok (.iconst 0, 1) := by decide +kernel
theorem dX10_suggest_2 : decode cX10_suggest 2 = .ok (.putfield 62, 3) := by decide +kernel
theorem dX10_suggest_5 : decode cX10_suggest 5 = .ok (.iload_n 1, 1) := by decide +kernel
theorem dX10_suggest_6 : decode cX10_suggest 6 = .ok (.iconst 0, 1) := by decide +kernel
theorem dX10_suggest_7 : decode cX10_suggest 7 = .ok (.bipush 50, 2) := by decide +kernel
theorem dX10_suggest_9 : decode cX10_suggest 9 = .ok (.invokestatic 69, 3) := by decide +kernel
theorem dX10_suggest_12 : decode cX10_suggest 12 = .ok (.ifCond .ne 6, 3) := by decide +kernel
theorem dX10_suggest_15 : decode cX10_suggest 15 = .ok (.bipush (-2), 2) := by decide +kernel
theorem dX10_suggest_17 : decode cX10_suggest 17 = .ok (.ireturn, 1) := by decide +kernel
theorem dX10_suggest_18 : decode cX10_suggest 18 = .ok (.aload_n 0, 1) := by decide +kernel
theorem dX10_suggest_19 : decode cX10_suggest 19 = .ok (.iload_n 1, 1) := by decide +kernel
theorem dX10_suggest_20 : decode cX10_suggest 20 = .ok (.iconst 0, 1) := by decide +kernel
theorem dX10_suggest_21 : decode cX10_suggest 21 = .ok (.invokevirtual 126, 3) := by decide +kernel
theorem dX10_suggest_24 : decode cX10_suggest 24 = .ok (.aload_n 0, 1) := by decide +kernel
theorem dX10_suggest_25 : decode cX10_suggest 25 = .ok (.getfield 119, 3) := by decide +kernel
theorem dX10_suggest_28 : decode cX10_suggest 28 = .ok (.ireturn, 1) := by decide +kernel
theorem dX10_suggestion_0 : decode cX10_suggestion 0 = .ok (.aload_n 0, 1) := by decide +kernel
theorem dX10_suggestion_1 : decode cX10_suggestion 1 = .ok (.iconst 0, 1) := by decide +kernel
theorem dX10_suggestion_2 : decode cX10_suggestion 2 = .ok (.putfield 62, 3) := by decide +kernel
theorem dX10_suggestion_5 : decode cX10_suggestion 5 = .ok (.iload_n 1, 1) := by decide +kernel
theorem dX10_suggestion_6 : decode cX10_suggestion 6 = .ok (.iconst 0, 1) := by decide +kernel
theorem dX10_suggestion_7 : decode cX10_suggestion 7 = .ok (.bipush 50, 2) := by decide +kernel
theorem dX10_suggestion_9 : decode cX10_suggestion 9 = .ok (.invokestatic 69, 3) := by decide +kernel
theorem dX10_suggestion_12 : decode cX10_suggestion 12 = .ok (.ifCond .ne 6, 3) := by decide +kernel
theorem dX10_suggestion_15 : decode cX10_suggestion 15 = .ok (.bipush (-2), 2) := by decide +kernel
theorem dX10_suggestion_17 : decode cX10_suggestion 17 = .ok (.ireturn, 1) := by decide +kernel
theorem dX10_suggestion_18 : decode cX10_suggestion 18 = .ok (.aload_n 0, 1) := by decide +kernel
theorem dX10_suggestion_19 : decode cX10_suggestion 19 = .ok (.iload_n 1, 1) := by decide +kernel
theorem dX10_suggestion_20 : decode cX10_suggestion 20 = .ok (.iconst 0, 1) := by decide +kernel
theorem dX10_suggestion_21 : decode cX10_suggestion 21 = .ok (.invokevirtual 126, 3) := by decide +kernel
theorem dX10_suggestion_24 : decode cX10_suggestion 24 = .ok (.iload_n 2, 1) := by decide +kernel
theorem dX10_suggestion_25 : decode cX10_suggestion 25 = .ok (.iconst 0, 1) := by decide +kernel
theorem dX10_suggestion_26 : decode cX10_suggestion 26 = .ok (.aload_n 0, 1) := by decide +kernel
theorem dX10_suggestion_27 : decode cX10_suggestion 27 = .ok (.getfield 119, 3) := by decide +kernel
theorem dX10_suggestion_30 : decode cX10_suggestion 30 = .ok (.iconst 1, 1) := by decide +kernel
theorem dX10_suggestion_31 : decode cX10_suggestion 31 = .ok (.isub, 1) := by decide +kernel
theorem dX10_suggestion_32 : decode cX10_suggestion 32 = .ok (.invokestatic 69, 3) := by decide +kernel
theorem dX10_suggestion_35 : decode cX10_suggestion 35 = .ok (.ifCond .eq 12, 3) := by decide +kernel
theorem dX10_suggestion_38 : decode cX10_suggestion 38 = .ok (.aload_n 0, 1) := by decide +kernel
theorem dX10_suggestion_39 : decode cX10_suggestion 39 = .ok (.getfield 50, 3) := by decide +kernel
theorem dX10_suggestion_42 : decode cX10_suggestion 42 = .ok (.iload_n 2, 1) := by decide +kernel
theorem dX10_suggestion_43 : decode cX10_suggestion 43 = .ok (.iaload, 1) := by decide +kernel
theorem dX10_suggestion_44 : decode cX10_suggestion 44 = .ok (.goto 4, 3) := by decide +kernel
theorem dX10_suggestion_47 : decode cX10_suggestion 47 = .ok (.iconst (-1), 1) := by decide +kernel
theorem dX10_suggestion_48 : decode cX10_suggestion 48 = .ok (.ireturn, 1) := by decide +kernel
theorem dX10_endings_0 : decode cX10_endings 0 = .ok (.aload_n 0, 1) := by decide +kernel
theorem dX10_endings_1 : decode cX10_endings 1 = .ok (.iconst 0, 1) := by decide +kernel
theorem dX10_endings_2 : decode cX10_endings 2 = .ok (.putfield 62, 3) := by decide +kernel
theorem dX10_endings_5 : decode cX10_endings 5 = .ok (.iload_n 1, 1) := by decide +kernel
theorem dX10_endings_6 : decode cX10_endings 6 = .ok (.iconst 0, 1) := by decide +kernel
theorem dX10_endings_7 : decode cX10_endings 7 = .ok (.bipush 50, 2) := by decide +kernel
theorem dX10_endings_9 : decode cX10_endings 9 = .ok (.invokestatic 69, 3) := by decide +kernel
theorem dX10_endings_12 : decode cX10_endings 12 = .ok (.ifCond .ne 6, 3) := by decide +kernel
theorem dX10_endings_15 : decode cX10_endings 15 = .ok (.bipush (-2), 2) := by decide +kernel
theorem dX10_endings_17 : decode cX10_endings 17 = .ok (.ireturn, 1) := by decide +kernel
theorem dX10_endings_18 : decode cX10_endings 18 = .ok (.aload_n 0, 1) := by decide +kernel
theorem dX10_endings_19 : decode cX10_endings 19 = .ok (.iload_n 1, 1) := by decide +kernel
theorem dX10_endings_20 : decode cX10_endings 20 = .ok (.iconst 1, 1) := by decide +kernel
theorem dX10_endings_21 : decode cX10_endings 21 = .ok (.invokevirtual 126, 3) := by decide +kernel
theorem dX10_endings_24 : decode cX10_endings 24 = .ok (.aload_n 0, 1) := by decide +kernel
theorem dX10_endings_25 : decode cX10_endings 25 = .ok (.getfield 119, 3) := by decide +kernel
theorem dX10_endings_28 : decode cX10_endings 28 = .ok (.ireturn, 1) := by decide +kernel
theorem dX10_ending_0 : decode cX10_ending 0 = .ok (.aload_n 0, 1) := by decide +kernel
theorem dX10_ending_1 : decode cX10_ending 1 = .ok (.iconst 0, 1) := by decide +kernel
theorem dX10_ending_2 : decode cX10_ending 2 = .ok (.putfield 62, 3) := by decide +kernel
theorem dX10_ending_5 : decode cX10_ending 5 = .ok (.iload_n 1, 1) := by decide +kernel
theorem dX10_ending_6 : decode cX10_ending 6 = .ok (.iconst 0, 1) := by decide +kernel
theorem dX10_ending_7 : decode cX10_ending 7 = .ok (.bipush 50, 2) := by decide +kernel
theorem dX10_ending_9 : decode cX10_ending 9 = .ok (.invokestatic 69, 3) := by decide +kernel
theorem dX10_ending_12 : decode cX10_ending 12 = .ok (.ifCond .ne 6, 3) := by decide +kernel
theorem dX10_ending_15 : decode cX10_ending 15 = .ok (.bipush (-2), 2) := by decide +kernel
theorem dX10_ending_17 : decode cX10_ending 17 = .ok (.ireturn, 1) := by decide +kernel
theorem dX10_ending_18 : decode cX10_ending 18 = .ok (.aload_n 0, 1) := by decide +kernel
theorem dX10_ending_19 : decode cX10_ending 19 = .ok (.iload_n 1, 1) := by decide +kernel
theorem dX10_ending_20 : decode cX10_ending 20 = .ok (.iconst 1, 1) := by decide +kernel
theorem dX10_ending_21 : decode cX10_ending 21 = .ok (.invokevirtual 126, 3) := by decide +kernel
theorem dX10_ending_24 : decode cX10_ending 24 = .ok (.iload_n 2, 1) := by decide +kernel
theorem dX10_ending_25 : decode cX10_ending 25 = .ok (.iconst 0, 1) := by decide +kernel
theorem dX10_ending_26 : decode cX10_ending 26 = .ok (.aload_n 0, 1) := by decide +kernel
theorem dX10_ending_27 : decode cX10_ending 27 = .ok (.getfield 119, 3) := by decide +kernel
theorem dX10_ending_30 : decode cX10_ending 30 = .ok (.iconst 1, 1) := by decide +kernel
theorem dX10_ending_31 : decode cX10_ending 31 = .ok (.isub, 1) := by decide +kernel
theorem dX10_ending_32 : decode cX10_ending 32 = .ok (.invokestatic 69, 3) := by decide +kernel
theorem dX10_ending_35 : decode cX10_ending 35 = .ok (.ifCond .eq 12, 3) := by decide +kernel
theorem dX10_ending_38 : decode cX10_ending 38 = .ok (.aload_n 0, 1) := by decide +kernel
theorem dX10_ending_39 : decode cX10_ending 39 = .ok (.getfield 50, 3) := by decide +kernel
theorem dX10_ending_42 : decode cX10_ending 42 = .ok (.iload_n 2, 1) := by decide +kernel
theorem dX10_ending_43 : decode cX10_ending 43 = .ok (.iaload, 1) := by decide +kernel
theorem dX10_ending_44 : decode cX10_ending 44 = .ok (.goto 4, 3) := by decide +kernel
theorem dX10_ending_47 : decode cX10_ending 47 = .ok (.iconst (-1), 1) := by decide +kernel
theorem dX10_ending_48 : decode cX10_ending 48 = .ok (.ireturn, 1) := by decide +kernel
theorem dX10_side_0 : decode cX10_side 0 = .ok (.aload_n 0, 1) := by decide +kernel
theorem dX10_side_1 : decode cX10_side 1 = .ok (.iload_n 1, 1) := by decide +kernel
theorem dX10_side_2 : decode cX10_side 2 = .ok (.iload_n 2, 1) := by decide +kernel
theorem dX10_side_3 : decode cX10_side 3 = .ok (.invokevirtual 102, 3) := by decide +kernel
theorem dX10_side_6 : decode cX10_side 6 = .ok (.iconst (-1), 1) := by decide +kernel
theorem dX10_side_7 : decode cX10_side 7 = .ok (.istore_n 3, 1) := by decide +kernel
theorem dX10_side_8 : decode cX10_side 8 = .ok (.iconst 0, 1) := by decide +kernel
theorem dX10_side_9 : decode cX10_side 9 = .ok (.istore 4, 2) := by decide +kernel
theorem dX10_side_11 : decode cX10_side 11 = .ok (.iload 4, 2) := by decide +kernel
theorem dX10_side_13 : decode cX10_side 13 = .ok (.aload_n 0, 1) := by decide +kernel
theorem dX10_side_14 : decode cX10_side 14 = .ok (.getfield 66, 3) := by decide +kernel
theorem dX10_side_17 : decode cX10_side 17 = .ok (.if_icmp .ge 55, 3) := by decide +kernel
theorem dX10_side_20 : decode cX10_side 20 = .ok (.aload_n 0, 1) := by decide +kernel
theorem dX10_side_21 : decode cX10_side 21 = .ok (.iload 4, 2) := by decide +kernel
theorem dX10_side_23 : decode cX10_side 23 = .ok (.invokevirtual 99, 3) := by decide +kernel
theorem dX10_side_26 : decode cX10_side 26 = .ok (.istore 5, 2) := by decide +kernel
theorem dX10_side_28 : decode cX10_side 28 = .ok (.iload_n 3, 1) := by decide +kernel
theorem dX10_side_29 : decode cX10_side 29 = .ok (.ifCond .lt 28, 3) := by decide +kernel
theorem dX10_side_32 : decode cX10_side 32 = .ok (.iload 5, 2) := by decide +kernel
theorem dX10_side_34 : decode cX10_side 34 = .ok (.iload_n 3, 1) := by decide +kernel
theorem dX10_side_35 : decode cX10_side 35 = .ok (.if_icmp .lt 22, 3) := by decide +kernel
theorem dX10_side_38 : decode cX10_side 38 = .ok (.iload 5, 2) := by decide +kernel
theorem dX10_side_40 : decode cX10_side 40 = .ok (.iload_n 3, 1) := by decide +kernel
theorem dX10_side_41 : decode cX10_side 41 = .ok (.if_icmp .ne 25, 3) := by decide +kernel
theorem dX10_side_44 : decode cX10_side 44 = .ok (.aload_n 0, 1) := by decide +kernel
theorem dX10_side_45 : decode cX10_side 45 = .ok (.iload 4, 2) := by decide +kernel
theorem dX10_side_47 : decode cX10_side 47 = .ok (.aload_n 0, 1) := by decide +kernel
theorem dX10_side_48 : decode cX10_side 48 = .ok (.getfield 130, 3) := by decide +kernel
theorem dX10_side_51 : decode cX10_side 51 = .ok (.invokevirtual 80, 3) := by decide +kernel
theorem dX10_side_54 : decode cX10_side 54 = .ok (.ifCond .eq 12, 3) := by decide +kernel
theorem dX10_side_57 : decode cX10_side 57 = .ok (.iload 5, 2) := by decide +kernel
theorem dX10_side_59 : decode cX10_side 59 = .ok (.istore_n 3, 1) := by decide +kernel
theorem dX10_side_60 : decode cX10_side 60 = .ok (.aload_n 0, 1) := by decide +kernel
theorem dX10_side_61 : decode cX10_side 61 = .ok (.iload 4, 2) := by decide +kernel
theorem dX10_side_63 : decode cX10_side 63 = .ok (.putfield 130, 3) := by decide +kernel
theorem dX10_side_66 : decode cX10_side 66 = .ok (.iinc 4 1, 3) := by decide +kernel
theorem dX10_side_69 : decode cX10_side 69 = .ok (.goto (-58), 3) := by decide +kernel
theorem dX10_side_72 : decode cX10_side 72 = .ok (.iload_n 3, 1) := by decide +kernel
theorem dX10_side_73 : decode cX10_side 73 = .ok (.ireturn, 1) := by decide +kernel
theorem dX10_parting_0 : decode cX10_parting 0 = .ok (.aload_n 0, 1) := by decide +kernel
theorem dX10_parting_1 : decode cX10_parting 1 = .ok (.iconst 0, 1) := by decide +kernel
theorem dX10_parting_2 : decode cX10_parting 2 = .ok (.putfield 62, 3) := by decide +kernel
theorem dX10_parting_5 : decode cX10_parting 5 = .ok (.iload_n 1, 1) := by decide +kernel
theorem dX10_parting_6 : decode cX10_parting 6 = .ok (.iconst 0, 1) := by decide +kernel
theorem dX10_parting_7 : decode cX10_parting 7 = .ok (.iconst 3, 1) := by decide +kernel
theorem dX10_parting_8 : decode cX10_parting 8 = .ok (.invokestatic 69, 3) := by decide +kernel
theorem dX10_parting_11 : decode cX10_parting 11 = .ok (.ifCond .ne 6, 3) := by decide +kernel
theorem dX10_parting_14 : decode cX10_parting 14 = .ok (.bipush (-2), 2) := by decide +kernel
theorem dX10_parting_16 : decode cX10_parting 16 = .ok (.ireturn, 1) := by decide +kernel
theorem dX10_parting_17 : decode cX10_parting 17 = .ok (.aload_n 0, 1) := by decide +kernel
theorem dX10_parting_18 : decode cX10_parting 18 = .ok (.getfield 66, 3) := by decide +kernel
theorem dX10_parting_21 : decode cX10_parting 21 = .ok (.ifCond .eq 11, 3) := by decide +kernel
theorem dX10_parting_24 : decode cX10_parting 24 = .ok (.aload_n 0, 1) := by decide +kernel
theorem dX10_parting_25 : decode cX10_parting 25 = .ok (.getfield 73, 3) := by decide +kernel
theorem dX10_parting_28 : decode cX10_parting 28 = .ok (.iconst 2, 1) := by decide +kernel
theorem dX10_parting_29 : decode cX10_parting 29 = .ok (.if_icmp .ge 6, 3) := by decide +kernel
theorem dX10_parting_32 : decode cX10_parting 32 = .ok (.bipush (-3), 2) := by decide +kernel
theorem dX10_parting_34 : decode cX10_parting 34 = .ok (.ireturn, 1) := by decide +kernel
theorem dX10_parting_35 : decode cX10_parting 35 = .ok (.iconst (-1), 1) := by decide +kernel
theorem dX10_parting_36 : decode cX10_parting 36 = .ok (.istore_n 2, 1) := by decide +kernel
theorem dX10_parting_37 : decode cX10_parting 37 = .ok (.iconst 0, 1) := by decide +kernel
theorem dX10_parting_38 : decode cX10_parting 38 = .ok (.istore_n 3, 1) := by decide +kernel
theorem dX10_parting_39 : decode cX10_parting 39 = .ok (.iconst 0, 1) := by decide +kernel
theorem dX10_parting_40 : decode cX10_parting 40 = .ok (.istore 4, 2) := by decide +kernel
theorem dX10_parting_42 : decode cX10_parting 42 = .ok (.iconst 0, 1) := by decide +kernel
theorem dX10_parting_43 : decode cX10_parting 43 = .ok (.istore 5, 2) := by decide +kernel
theorem dX10_parting_45 : decode cX10_parting 45 = .ok (.iconst 1, 1) := by decide +kernel
theorem dX10_parting_46 : decode cX10_parting 46 = .ok (.istore 6, 2) := by decide +kernel
theorem dX10_parting_48 : decode cX10_parting 48 = .ok (.iload 6, 2) := by decide +kernel
theorem dX10_parting_50 : decode cX10_parting 50 = .ok (.aload_n 0, 1) := by decide +kernel
theorem dX10_parting_51 : decode cX10_parting 51 = .ok (.getfield 73, 3) := by decide +kernel
theorem dX10_parting_54 : decode cX10_parting 54 = .ok (.if_icmp .ge 82, 3) := by decide +kernel
theorem dX10_parting_57 : decode cX10_parting 57 = .ok (.aload_n 0, 1) := by decide +kernel
theorem dX10_parting_58 : decode cX10_parting 58 = .ok (.iconst 0, 1) := by decide +kernel
theorem dX10_parting_59 : decode cX10_parting 59 = .ok (.iload 6, 2) := by decide +kernel
theorem dX10_parting_61 : decode cX10_parting 61 = .ok (.invokevirtual 133, 3) := by decide +kernel
theorem dX10_parting_64 : decode cX10_parting 64 = .ok (.istore 7, 2) := by decide +kernel
theorem dX10_parting_66 : decode cX10_parting 66 = .ok (.aload_n 0, 1) := by decide +kernel
theorem dX10_parting_67 : decode cX10_parting 67 = .ok (.getfield 130, 3) := by decide +kernel
theorem dX10_parting_70 : decode cX10_parting 70 = .ok (.istore 8, 2) := by decide +kernel
theorem dX10_parting_72 : decode cX10_parting 72 = .ok (.aload_n 0, 1) := by decide +kernel
theorem dX10_parting_73 : decode cX10_parting 73 = .ok (.iload 6, 2) := by decide +kernel
theorem dX10_parting_75 : decode cX10_parting 75 = .ok (.aload_n 0, 1) := by decide +kernel
theorem dX10_parting_76 : decode cX10_parting 76 = .ok (.getfield 73, 3) := by decide +kernel
theorem dX10_parting_79 : decode cX10_parting 79 = .ok (.invokevirtual 133, 3) := by decide +kernel
theorem dX10_parting_82 : decode cX10_parting 82 = .ok (.istore 9, 2) := by decide +kernel
theorem dX10_parting_84 : decode cX10_parting 84 = .ok (.iload_n 2, 1) := by decide +kernel
theorem dX10_parting_85 : decode cX10_parting 85 = .ok (.ifCond .lt 19, 3) := by decide +kernel
theorem dX10_parting_88 : decode cX10_parting 88 = .ok (.iload 7, 2) := by decide +kernel
theorem dX10_parting_90 : decode cX10_parting 90 = .ok (.iload 9, 2) := by decide +kernel
theorem dX10_parting_92 : decode cX10_parting 92 = .ok (.iadd, 1) := by decide +kernel
theorem dX10_parting_93 : decode cX10_parting 93 = .ok (.aload_n 0, 1) := by decide +kernel
theorem dX10_parting_94 : decode cX10_parting 94 = .ok (.getfield 22, 3) := by decide +kernel
theorem dX10_parting_97 : decode cX10_parting 97 = .ok (.iconst 4, 1) := by decide +kernel
theorem dX10_parting_98 : decode cX10_parting 98 = .ok (.iaload, 1) := by decide +kernel
theorem dX10_parting_99 : decode cX10_parting 99 = .ok (.iadd, 1) := by decide +kernel
theorem dX10_parting_100 : decode cX10_parting 100 = .ok (.iload_n 2, 1) := by decide +kernel
theorem dX10_parting_101 : decode cX10_parting 101 = .ok (.if_icmp .ge 29, 3) := by decide +kernel
theorem dX10_parting_104 : decode cX10_parting 104 = .ok (.iload 7, 2) := by decide +kernel
theorem dX10_parting_106 : decode cX10_parting 106 = .ok (.iload 9, 2) := by decide +kernel
theorem dX10_parting_108 : decode cX10_parting 108 = .ok (.iadd, 1) := by decide +kernel
theorem dX10_parting_109 : decode cX10_parting 109 = .ok (.aload_n 0, 1) := by decide +kernel
theorem dX10_parting_110 : decode cX10_parting 110 = .ok (.getfield 22, 3) := by decide +kernel
theorem dX10_parting_113 : decode cX10_parting 113 = .ok (.iconst 4, 1) := by decide +kernel
theorem dX10_parting_114 : decode cX10_parting 114 = .ok (.iaload, 1) := by decide +kernel
theorem dX10_parting_115 : decode cX10_parting 115 = .ok (.iadd, 1) := by decide +kernel
theorem dX10_parting_116 : decode cX10_parting 116 = .ok (.istore_n 2, 1) := by decide +kernel
theorem dX10_parting_117 : decode cX10_parting 117 = .ok (.iload 6, 2) := by decide +kernel
theorem dX10_parting_119 : decode cX10_parting 119 = .ok (.istore_n 3, 1) := by decide +kernel
theorem dX10_parting_120 : decode cX10_parting 120 = .ok (.iload 8, 2) := by decide +kernel
theorem dX10_parting_122 : decode cX10_parting 122 = .ok (.istore 4, 2) := by decide +kernel
theorem dX10_parting_124 : decode cX10_parting 124 = .ok (.aload_n 0, 1) := by decide +kernel
theorem dX10_parting_125 : decode cX10_parting 125 = .ok (.getfield 130, 3) := by decide +kernel
theorem dX10_parting_128 : decode cX10_parting 128 = .ok (.istore 5, 2) := by decide +kernel
theorem dX10_parting_130 : decode cX10_parting 130 = .ok (.iinc 6 1, 3) := by decide +kernel
theorem dX10_parting_133 : decode cX10_parting 133 = .ok (.goto (-85), 3) := by decide +kernel
theorem dX10_parting_136 : decode cX10_parting 136 = .ok (.iload_n 1, 1) := by decide +kernel
theorem dX10_parting_137 : decode cX10_parting 137 = .ok (.ifCond .ne 7, 3) := by decide +kernel
theorem dX10_parting_140 : decode cX10_parting 140 = .ok (.iload_n 2, 1) := by decide +kernel
theorem dX10_parting_141 : decode cX10_parting 141 = .ok (.goto 24, 3) := by decide +kernel
theorem dX10_parting_144 : decode cX10_parting 144 = .ok (.iload_n 1, 1) := by decide +kernel
theorem dX10_parting_145 : decode cX10_parting 145 = .ok (.iconst 1, 1) := by decide +kernel
theorem dX10_parting_146 : decode cX10_parting 146 = .ok (.if_icmp .ne 7, 3) := by decide +kernel
theorem dX10_parting_149 : decode cX10_parting 149 = .ok (.iload_n 3, 1) := by decide +kernel
theorem dX10_parting_150 : decode cX10_parting 150 = .ok (.goto 15, 3) := by decide +kernel
theorem dX10_parting_153 : decode cX10_parting 153 = .ok (.iload_n 1, 1) := by decide +kernel
theorem dX10_parting_154 : decode cX10_parting 154 = .ok (.iconst 2, 1) := by decide +kernel
theorem dX10_parting_155 : decode cX10_parting 155 = .ok (.if_icmp .ne 8, 3) := by decide +kernel
theorem dX10_parting_158 : decode cX10_parting 158 = .ok (.iload 4, 2) := by decide +kernel
theorem dX10_parting_160 : decode cX10_parting 160 = .ok (.goto 5, 3) := by decide +kernel
theorem dX10_parting_163 : decode cX10_parting 163 = .ok (.iload 5, 2) := by decide +kernel
theorem dX10_parting_165 : decode cX10_parting 165 = .ok (.ireturn, 1) := by decide +kernel
theorem dX10_token_0 : decode cX10_token 0 = .ok (.aload_n 0, 1) := by decide +kernel
theorem dX10_token_1 : decode cX10_token 1 = .ok (.iconst 0, 1) := by decide +kernel
theorem dX10_token_2 : decode cX10_token 2 = .ok (.putfield 62, 3) := by decide +kernel
theorem dX10_token_5 : decode cX10_token 5 = .ok (.aload_n 0, 1) := by decide +kernel
theorem dX10_token_6 : decode cX10_token 6 = .ok (.getfield 73, 3) := by decide +kernel
theorem dX10_token_9 : decode cX10_token 9 = .ok (.ifCond .ne 6, 3) := by decide +kernel
theorem dX10_token_12 : decode cX10_token 12 = .ok (.bipush (-2), 2) := by decide +kernel
theorem dX10_token_14 : decode cX10_token 14 = .ok (.ireturn, 1) := by decide +kernel
theorem dX10_token_15 : decode cX10_token 15 = .ok (.aload_n 0, 1) := by decide +kernel
theorem dX10_token_16 : decode cX10_token 16 = .ok (.getfield 136, 3) := by decide +kernel
theorem dX10_token_19 : decode cX10_token 19 = .ok (.bipush 6, 2) := by decide +kernel
theorem dX10_token_21 : decode cX10_token 21 = .ok (.if_icmp .ne 6, 3) := by decide +kernel
theorem dX10_token_24 : decode cX10_token 24 = .ok (.bipush (-4), 2) := by decide +kernel
theorem dX10_token_26 : decode cX10_token 26 = .ok (.ireturn, 1) := by decide +kernel
theorem dX10_token_27 : decode cX10_token 27 = .ok (.aload_n 0, 1) := by decide +kernel
theorem dX10_token_28 : decode cX10_token 28 = .ok (.getfield 28, 3) := by decide +kernel
theorem dX10_token_31 : decode cX10_token 31 = .ok (.aload_n 0, 1) := by decide +kernel
theorem dX10_token_32 : decode cX10_token 32 = .ok (.getfield 136, 3) := by decide +kernel
theorem dX10_token_35 : decode cX10_token 35 = .ok (.aload_n 0, 1) := by decide +kernel
theorem dX10_token_36 : decode cX10_token 36 = .ok (.getfield 73, 3) := by decide +kernel
theorem dX10_token_39 : decode cX10_token 39 = .ok (.iastore, 1) := by decide +kernel
theorem dX10_token_40 : decode cX10_token 40 = .ok (.iconst 0, 1) := by decide +kernel
theorem dX10_token_41 : decode cX10_token 41 = .ok (.istore_n 1, 1) := by decide +kernel
theorem dX10_token_42 : decode cX10_token 42 = .ok (.iload_n 1, 1) := by decide +kernel
theorem dX10_token_43 : decode cX10_token 43 = .ok (.aload_n 0, 1) := by decide +kernel
theorem dX10_token_44 : decode cX10_token 44 = .ok (.getfield 73, 3) := by decide +kernel
theorem dX10_token_47 : decode cX10_token 47 = .ok (.if_icmp .ge 29, 3) := by decide +kernel
theorem dX10_token_50 : decode cX10_token 50 = .ok (.aload_n 0, 1) := by decide +kernel
theorem dX10_token_51 : decode cX10_token 51 = .ok (.getfield 31, 3) := by decide +kernel
theorem dX10_token_54 : decode cX10_token 54 = .ok (.bipush 12, 2) := by decide +kernel
theorem dX10_token_56 : decode cX10_token 56 = .ok (.aload_n 0, 1) := by decide +kernel
theorem dX10_token_57 : decode cX10_token 57 = .ok (.getfield 136, 3) := by decide +kernel
theorem dX10_token_60 : decode cX10_token 60 = .ok (.imul, 1) := by decide +kernel
theorem dX10_token_61 : decode cX10_token 61 = .ok (.iload_n 1, 1) := by decide +kernel
theorem dX10_token_62 : decode cX10_token 62 = .ok (.iadd, 1) := by decide +kernel
theorem dX10_token_63 : decode cX10_token 63 = .ok (.aload_n 0, 1) := by decide +kernel
theorem dX10_token_64 : decode cX10_token 64 = .ok (.getfield 7, 3) := by decide +kernel
theorem dX10_token_67 : decode cX10_token 67 = .ok (.iload_n 1, 1) := by decide +kernel
theorem dX10_token_68 : decode cX10_token 68 = .ok (.iaload, 1) := by decide +kernel
theorem dX10_token_69 : decode cX10_token 69 = .ok (.iastore, 1) := by decide +kernel
theorem dX10_token_70 : decode cX10_token 70 = .ok (.iinc 1 1, 3) := by decide +kernel
theorem dX10_token_73 : decode cX10_token 73 = .ok (.goto (-31), 3) := by decide +kernel
theorem dX10_token_76 : decode cX10_token 76 = .ok (.aload_n 0, 1) := by decide +kernel
theorem dX10_token_77 : decode cX10_token 77 = .ok (.dup, 1) := by decide +kernel
theorem dX10_token_78 : decode cX10_token 78 = .ok (.getfield 136, 3) := by decide +kernel
theorem dX10_token_81 : decode cX10_token 81 = .ok (.iconst 1, 1) := by decide +kernel
theorem dX10_token_82 : decode cX10_token 82 = .ok (.iadd, 1) := by decide +kernel
theorem dX10_token_83 : decode cX10_token 83 = .ok (.putfield 136, 3) := by decide +kernel
theorem dX10_token_86 : decode cX10_token 86 = .ok (.aload_n 0, 1) := by decide +kernel
theorem dX10_token_87 : decode cX10_token 87 = .ok (.iconst 0, 1) := by decide +kernel
theorem dX10_token_88 : decode cX10_token 88 = .ok (.putfield 73, 3) := by decide +kernel
theorem dX10_token_91 : decode cX10_token 91 = .ok (.aload_n 0, 1) := by decide +kernel
theorem dX10_token_92 : decode cX10_token 92 = .ok (.getfield 136, 3) := by decide +kernel
theorem dX10_token_95 : decode cX10_token 95 = .ok (.ireturn, 1) := by decide +kernel
theorem dX10_line_0 : decode cX10_line 0 = .ok (.aload_n 0, 1) := by decide +kernel
theorem dX10_line_1 : decode cX10_line 1 = .ok (.iconst 0, 1) := by decide +kernel
theorem dX10_line_2 : decode cX10_line 2 = .ok (.putfield 62, 3) := by decide +kernel
theorem dX10_line_5 : decode cX10_line 5 = .ok (.aload_n 0, 1) := by decide +kernel
theorem dX10_line_6 : decode cX10_line 6 = .ok (.getfield 136, 3) := by decide +kernel
theorem dX10_line_9 : decode cX10_line 9 = .ok (.istore_n 1, 1) := by decide +kernel
theorem dX10_line_10 : decode cX10_line 10 = .ok (.aload_n 0, 1) := by decide +kernel
theorem dX10_line_11 : decode cX10_line 11 = .ok (.iconst 0, 1) := by decide +kernel
theorem dX10_line_12 : decode cX10_line 12 = .ok (.putfield 136, 3) := by decide +kernel
theorem dX10_line_15 : decode cX10_line 15 = .ok (.iload_n 1, 1) := by decide +kernel
theorem dX10_line_16 : decode cX10_line 16 = .ok (.ireturn, 1) := by decide +kernel
theorem dX10_pair_0 : decode cX10_pair 0 = .ok (.aload_n 0, 1) := by decide +kernel
theorem dX10_pair_1 : decode cX10_pair 1 = .ok (.iconst 0, 1) := by decide +kernel
theorem dX10_pair_2 : decode cX10_pair 2 = .ok (.putfield 62, 3) := by decide +kernel
theorem dX10_pair_5 : decode cX10_pair 5 = .ok (.aload_n 0, 1) := by decide +kernel
theorem dX10_pair_6 : decode cX10_pair 6 = .ok (.iload_n 1, 1) := by decide +kernel
theorem dX10_pair_7 : decode cX10_pair 7 = .ok (.invokevirtual 76, 3) := by decide +kernel
theorem dX10_pair_10 : decode cX10_pair 10 = .ok (.ifCond .eq 11, 3) := by decide +kernel
theorem dX10_pair_13 : decode cX10_pair 13 = .ok (.aload_n 0, 1) := by decide +kernel
theorem dX10_pair_14 : decode cX10_pair 14 = .ok (.iload_n 2, 1) := by decide +kernel
theorem dX10_pair_15 : decode cX10_pair 15 = .ok (.invokevirtual 76, 3) := by decide +kernel
theorem dX10_pair_18 : decode cX10_pair 18 = .ok (.ifCond .ne 5, 3) := by decide +kernel
theorem dX10_pair_21 : decode cX10_pair 21 = .ok (.iconst (-1), 1) := by decide +kernel
theorem dX10_pair_22 : decode cX10_pair 22 = .ok (.ireturn, 1) := by decide +kernel
theorem dX10_pair_23 : decode cX10_pair 23 = .ok (.aload_n 0, 1) := by decide +kernel
theorem dX10_pair_24 : decode cX10_pair 24 = .ok (.getfield 34, 3) := by decide +kernel
theorem dX10_pair_27 : decode cX10_pair 27 = .ok (.bipush 60, 2) := by decide +kernel
theorem dX10_pair_29 : decode cX10_pair 29 = .ok (.iload_n 1, 1) := by decide +kernel
theorem dX10_pair_30 : decode cX10_pair 30 = .ok (.imul, 1) := by decide +kernel
theorem dX10_pair_31 : decode cX10_pair 31 = .ok (.iload_n 2, 1) := by decide +kernel
theorem dX10_pair_32 : decode cX10_pair 32 = .ok (.iadd, 1) := by decide +kernel
theorem dX10_pair_33 : decode cX10_pair 33 = .ok (.baload, 1) := by decide +kernel
theorem dX10_pair_34 : decode cX10_pair 34 = .ok (.istore 4, 2) := by decide +kernel
theorem dX10_pair_36 : decode cX10_pair 36 = .ok (.aload_n 0, 1) := by decide +kernel
theorem dX10_pair_37 : decode cX10_pair 37 = .ok (.getfield 34, 3) := by decide +kernel
theorem dX10_pair_40 : decode cX10_pair 40 = .ok (.bipush 60, 2) := by decide +kernel
theorem dX10_pair_42 : decode cX10_pair 42 = .ok (.iload_n 1, 1) := by decide +kernel
theorem dX10_pair_43 : decode cX10_pair 43 = .ok (.imul, 1) := by decide +kernel
theorem dX10_pair_44 : decode cX10_pair 44 = .ok (.iload_n 2, 1) := by decide +kernel
theorem dX10_pair_45 : decode cX10_pair 45 = .ok (.iadd, 1) := by decide +kernel
theorem dX10_pair_46 : decode cX10_pair 46 = .ok (.iload_n 3, 1) := by decide +kernel
theorem dX10_pair_47 : decode cX10_pair 47 = .ok (.bastore, 1) := by decide +kernel
theorem dX10_pair_48 : decode cX10_pair 48 = .ok (.iload 4, 2) := by decide +kernel
theorem dX10_pair_50 : decode cX10_pair 50 = .ok (.iload_n 3, 1) := by decide +kernel
theorem dX10_pair_51 : decode cX10_pair 51 = .ok (.if_icmp .eq 7, 3) := by decide +kernel
theorem dX10_pair_54 : decode cX10_pair 54 = .ok (.iconst 1, 1) := by decide +kernel
theorem dX10_pair_55 : decode cX10_pair 55 = .ok (.goto 4, 3) := by decide +kernel
theorem dX10_pair_58 : decode cX10_pair 58 = .ok (.iconst 0, 1) := by decide +kernel
theorem dX10_pair_59 : decode cX10_pair 59 = .ok (.ireturn, 1) := by decide +kernel
theorem dX10_nextTo_0 : decode cX10_nextTo 0 = .ok (.aload_n 0, 1) := by decide +kernel
theorem dX10_nextTo_1 : decode cX10_nextTo 1 = .ok (.getfield 34, 3) := by decide +kernel
theorem dX10_nextTo_4 : decode cX10_nextTo 4 = .ok (.bipush 60, 2) := by decide +kernel
theorem dX10_nextTo_6 : decode cX10_nextTo 6 = .ok (.iload_n 1, 1) := by decide +kernel
theorem dX10_nextTo_7 : decode cX10_nextTo 7 = .ok (.imul, 1) := by decide +kernel
theorem dX10_nextTo_8 : decode cX10_nextTo 8 = .ok (.iload_n 2, 1) := by decide +kernel
theorem dX10_nextTo_9 : decode cX10_nextTo 9 = .ok (.iadd, 1) := by decide +kernel
theorem dX10_nextTo_10 : decode cX10_nextTo 10 = .ok (.baload, 1) := by decide +kernel
theorem dX10_nextTo_11 : decode cX10_nextTo 11 = .ok (.ifCond .eq 7, 3) := by decide +kernel
theorem dX10_nextTo_14 : decode cX10_nextTo 14 = .ok (.iconst 0, 1) := by decide +kernel
theorem dX10_nextTo_15 : decode cX10_nextTo 15 = .ok (.goto 9, 3) := by decide +kernel
theorem dX10_nextTo_18 : decode cX10_nextTo 18 = .ok (.aload_n 0, 1) := by decide +kernel
theorem dX10_nextTo_19 : decode cX10_nextTo 19 = .ok (.getfield 22, 3) := by decide +kernel
theorem dX10_nextTo_22 : decode cX10_nextTo 22 = .ok (.iconst 5, 1) := by decide +kernel
theorem dX10_nextTo_23 : decode cX10_nextTo 23 = .ok (.iaload, 1) := by decide +kernel
theorem dX10_nextTo_24 : decode cX10_nextTo 24 = .ok (.ireturn, 1) := by decide +kernel
theorem dX10_chosen_0 : decode cX10_chosen 0 = .ok (.aload_n 0, 1) := by decide +kernel
theorem dX10_chosen_1 : decode cX10_chosen 1 = .ok (.iconst 0, 1) := by decide +kernel
theorem dX10_chosen_2 : decode cX10_chosen 2 = .ok (.putfield 62, 3) := by decide +kernel
theorem dX10_chosen_5 : decode cX10_chosen 5 = .ok (.iload_n 1, 1) := by decide +kernel
theorem dX10_chosen_6 : decode cX10_chosen 6 = .ok (.iconst 0, 1) := by decide +kernel
theorem dX10_chosen_7 : decode cX10_chosen 7 = .ok (.bipush 50, 2) := by decide +kernel
theorem dX10_chosen_9 : decode cX10_chosen 9 = .ok (.invokestatic 69, 3) := by decide +kernel
theorem dX10_chosen_12 : decode cX10_chosen 12 = .ok (.ifCond .ne 6, 3) := by decide +kernel
theorem dX10_chosen_15 : decode cX10_chosen 15 = .ok (.bipush (-2), 2) := by decide +kernel
theorem dX10_chosen_17 : decode cX10_chosen 17 = .ok (.ireturn, 1) := by decide +kernel
theorem dX10_chosen_18 : decode cX10_chosen 18 = .ok (.iload_n 2, 1) := by decide +kernel
theorem dX10_chosen_19 : decode cX10_chosen 19 = .ok (.iconst (-1), 1) := by decide +kernel
theorem dX10_chosen_20 : decode cX10_chosen 20 = .ok (.aload_n 0, 1) := by decide +kernel
theorem dX10_chosen_21 : decode cX10_chosen 21 = .ok (.getfield 136, 3) := by decide +kernel
theorem dX10_chosen_24 : decode cX10_chosen 24 = .ok (.iconst 1, 1) := by decide +kernel
theorem dX10_chosen_25 : decode cX10_chosen 25 = .ok (.isub, 1) := by decide +kernel
theorem dX10_chosen_26 : decode cX10_chosen 26 = .ok (.invokestatic 69, 3) := by decide +kernel
theorem dX10_chosen_29 : decode cX10_chosen 29 = .ok (.ifCond .ne 5, 3) := by decide +kernel
theorem dX10_chosen_32 : decode cX10_chosen 32 = .ok (.iconst (-1), 1) := by decide +kernel
theorem dX10_chosen_33 : decode cX10_chosen 33 = .ok (.ireturn, 1) := by decide +kernel
theorem dX10_chosen_34 : decode cX10_chosen 34 = .ok (.aload_n 0, 1) := by decide +kernel
theorem dX10_chosen_35 : decode cX10_chosen 35 = .ok (.getfield 136, 3) := by decide +kernel
theorem dX10_chosen_38 : decode cX10_chosen 38 = .ok (.ifCond .ne 6, 3) := by decide +kernel
theorem dX10_chosen_41 : decode cX10_chosen 41 = .ok (.bipush (-3), 2) := by decide +kernel
theorem dX10_chosen_43 : decode cX10_chosen 43 = .ok (.ireturn, 1) := by decide +kernel
theorem dX10_chosen_44 : decode cX10_chosen 44 = .ok (.aload_n 0, 1) := by decide +kernel
theorem dX10_chosen_45 : decode cX10_chosen 45 = .ok (.getfield 136, 3) := by decide +kernel
theorem dX10_chosen_48 : decode cX10_chosen 48 = .ok (.iconst 1, 1) := by decide +kernel
theorem dX10_chosen_49 : decode cX10_chosen 49 = .ok (.isub, 1) := by decide +kernel
theorem dX10_chosen_50 : decode cX10_chosen 50 = .ok (.istore_n 3, 1) := by decide +kernel
theorem dX10_chosen_51 : decode cX10_chosen 51 = .ok (.iload_n 3, 1) := by decide +kernel
theorem dX10_chosen_52 : decode cX10_chosen 52 = .ok (.ifCond .lt 245, 3) := by decide +kernel
theorem dX10_chosen_55 : decode cX10_chosen 55 = .ok (.aload_n 0, 1) := by decide +kernel
theorem dX10_chosen_56 : decode cX10_chosen 56 = .ok (.aload_n 0, 1) := by decide +kernel
theorem dX10_chosen_57 : decode cX10_chosen 57 = .ok (.getfield 28, 3) := by decide +kernel
theorem dX10_chosen_60 : decode cX10_chosen 60 = .ok (.iload_n 3, 1) := by decide +kernel
theorem dX10_chosen_61 : decode cX10_chosen 61 = .ok (.iaload, 1) := by decide +kernel
theorem dX10_chosen_62 : decode cX10_chosen 62 = .ok (.putfield 88, 3) := by decide +kernel
theorem dX10_chosen_65 : decode cX10_chosen 65 = .ok (.iconst 0, 1) := by decide +kernel
theorem dX10_chosen_66 : decode cX10_chosen 66 = .ok (.istore 4, 2) := by decide +kernel
theorem dX10_chosen_68 : decode cX10_chosen 68 = .ok (.iload 4, 2) := by decide +kernel
theorem dX10_chosen_70 : decode cX10_chosen 70 = .ok (.aload_n 0, 1) := by decide +kernel
theorem dX10_chosen_71 : decode cX10_chosen 71 = .ok (.getfield 88, 3) := by decide +kernel
theorem dX10_chosen_74 : decode cX10_chosen 74 = .ok (.if_icmp .ge 28, 3) := by decide +kernel
theorem dX10_chosen_77 : decode cX10_chosen 77 = .ok (.aload_n 0, 1) := by decide +kernel
theorem dX10_chosen_78 : decode cX10_chosen 78 = .ok (.getfield 41, 3) := by decide +kernel
theorem dX10_chosen_81 : decode cX10_chosen 81 = .ok (.iload 4, 2) := by decide +kernel
theorem dX10_chosen_83 : decode cX10_chosen 83 = .ok (.aload_n 0, 1) := by decide +kernel
theorem dX10_chosen_84 : decode cX10_chosen 84 = .ok (.getfield 31, 3) := by decide +kernel
theorem dX10_chosen_87 : decode cX10_chosen 87 = .ok (.bipush 12, 2) := by decide +kernel
theorem dX10_chosen_89 : decode cX10_chosen 89 = .ok (.iload_n 3, 1) := by decide +kernel
theorem dX10_chosen_90 : decode cX10_chosen 90 = .ok (.imul, 1) := by decide +kernel
theorem dX10_chosen_91 : decode cX10_chosen 91 = .ok (.iload 4, 2) := by decide +kernel
theorem dX10_chosen_93 : decode cX10_chosen 93 = .ok (.iadd, 1) := by decide +kernel
theorem dX10_chosen_94 : decode cX10_chosen 94 = .ok (.iaload, 1) := by decide +kernel
theorem dX10_chosen_95 : decode cX10_chosen 95 = .ok (.iastore, 1) := by decide +kernel
theorem dX10_chosen_96 : decode cX10_chosen 96 = .ok (.iinc 4 1, 3) := by decide +kernel
theorem dX10_chosen_99 : decode cX10_chosen 99 = .ok (.goto (-31), 3) := by decide +kernel
theorem dX10_chosen_102 : decode cX10_chosen 102 = .ok (.iconst 0, 1) := by decide +kernel
theorem dX10_chosen_103 : decode cX10_chosen 103 = .ok (.istore 4, 2) := by decide +kernel
theorem dX10_chosen_105 : decode cX10_chosen 105 = .ok (.iload 4, 2) := by decide +kernel
theorem dX10_chosen_107 : decode cX10_chosen 107 = .ok (.aload_n 0, 1) := by decide +kernel
theorem dX10_chosen_108 : decode cX10_chosen 108 = .ok (.getfield 66, 3) := by decide +kernel
theorem dX10_chosen_111 : decode cX10_chosen 111 = .ok (.if_icmp .ge 180, 3) := by decide +kernel
theorem dX10_chosen_114 : decode cX10_chosen 114 = .ok (.aload_n 0, 1) := by decide +kernel
theorem dX10_chosen_115 : decode cX10_chosen 115 = .ok (.iload 4, 2) := by decide +kernel
theorem dX10_chosen_117 : decode cX10_chosen 117 = .ok (.invokevirtual 99, 3) := by decide +kernel
theorem dX10_chosen_120 : decode cX10_chosen 120 = .ok (.istore 5, 2) := by decide +kernel
theorem dX10_chosen_122 : decode cX10_chosen 122 = .ok (.iload_n 3, 1) := by decide +kernel
theorem dX10_chosen_123 : decode cX10_chosen 123 = .ok (.aload_n 0, 1) := by decide +kernel
theorem dX10_chosen_124 : decode cX10_chosen 124 = .ok (.getfield 136, 3) := by decide +kernel
theorem dX10_chosen_127 : decode cX10_chosen 127 = .ok (.iconst 1, 1) := by decide +kernel
theorem dX10_chosen_128 : decode cX10_chosen 128 = .ok (.isub, 1) := by decide +kernel
theorem dX10_chosen_129 : decode cX10_chosen 129 = .ok (.if_icmp .ne 7, 3) := by decide +kernel
theorem dX10_chosen_132 : decode cX10_chosen 132 = .ok (.iconst 0, 1) := by decide +kernel
theorem dX10_chosen_133 : decode cX10_chosen 133 = .ok (.goto 4, 3) := by decide +kernel
theorem dX10_chosen_136 : decode cX10_chosen 136 = .ok (.iconst (-1), 1) := by decide +kernel
theorem dX10_chosen_137 : decode cX10_chosen 137 = .ok (.istore 6, 2) := by decide +kernel
theorem dX10_chosen_139 : decode cX10_chosen 139 = .ok (.iconst 0, 1) := by decide +kernel
theorem dX10_chosen_140 : decode cX10_chosen 140 = .ok (.istore 7, 2) := by decide +kernel
theorem dX10_chosen_142 : decode cX10_chosen 142 = .ok (.iload 7, 2) := by decide +kernel
theorem dX10_chosen_144 : decode cX10_chosen 144 = .ok (.aload_n 0, 1) := by decide +kernel
theorem dX10_chosen_145 : decode cX10_chosen 145 = .ok (.getfield 66, 3) := by decide +kernel
theorem dX10_chosen_148 : decode cX10_chosen 148 = .ok (.if_icmp .ge 91, 3) := by decide +kernel
theorem dX10_chosen_151 : decode cX10_chosen 151 = .ok (.iload_n 3, 1) := by decide +kernel
theorem dX10_chosen_152 : decode cX10_chosen 152 = .ok (.aload_n 0, 1) := by decide +kernel
theorem dX10_chosen_153 : decode cX10_chosen 153 = .ok (.getfield 136, 3) := by decide +kernel
theorem dX10_chosen_156 : decode cX10_chosen 156 = .ok (.iconst 1, 1) := by decide +kernel
theorem dX10_chosen_157 : decode cX10_chosen 157 = .ok (.isub, 1) := by decide +kernel
theorem dX10_chosen_158 : decode cX10_chosen 158 = .ok (.if_icmp .ge 81, 3) := by decide +kernel
theorem dX10_chosen_161 : decode cX10_chosen 161 = .ok (.aload_n 0, 1) := by decide +kernel
theorem dX10_chosen_162 : decode cX10_chosen 162 = .ok (.getfield 59, 3) := by decide +kernel
theorem dX10_chosen_165 : decode cX10_chosen 165 = .ok (.bipush 60, 2) := by decide +kernel
theorem dX10_chosen_167 : decode cX10_chosen 167 = .ok (.iload_n 3, 1) := by decide +kernel
theorem dX10_chosen_168 : decode cX10_chosen 168 = .ok (.iconst 1, 1) := by decide +kernel
theorem dX10_chosen_169 : decode cX10_chosen 169 = .ok (.iadd, 1) := by decide +kernel
theorem dX10_chosen_170 : decode cX10_chosen 170 = .ok (.imul, 1) := by decide +kernel
theorem dX10_chosen_171 : decode cX10_chosen 171 = .ok (.iload 7, 2) := by decide +kernel
theorem dX10_chosen_173 : decode cX10_chosen 173 = .ok (.iadd, 1) := by decide +kernel
theorem dX10_chosen_174 : decode cX10_chosen 174 = .ok (.iaload, 1) := by decide +kernel
theorem dX10_chosen_175 : decode cX10_chosen 175 = .ok (.ifCond .ge 7, 3) := by decide +kernel
theorem dX10_chosen_178 : decode cX10_chosen 178 = .ok (.iconst (-1), 1) := by decide +kernel
theorem dX10_chosen_179 : decode cX10_chosen 179 = .ok (.goto 26, 3) := by decide +kernel
theorem dX10_chosen_182 : decode cX10_chosen 182 = .ok (.aload_n 0, 1) := by decide +kernel
theorem dX10_chosen_183 : decode cX10_chosen 183 = .ok (.getfield 59, 3) := by decide +kernel
theorem dX10_chosen_186 : decode cX10_chosen 186 = .ok (.bipush 60, 2) := by decide +kernel
theorem dX10_chosen_188 : decode cX10_chosen 188 = .ok (.iload_n 3, 1) := by decide +kernel
theorem dX10_chosen_189 : decode cX10_chosen 189 = .ok (.iconst 1, 1) := by decide +kernel
theorem dX10_chosen_190 : decode cX10_chosen 190 = .ok (.iadd, 1) := by decide +kernel
theorem dX10_chosen_191 : decode cX10_chosen 191 = .ok (.imul, 1) := by decide +kernel
theorem dX10_chosen_192 : decode cX10_chosen 192 = .ok (.iload 7, 2) := by decide +kernel
theorem dX10_chosen_194 : decode cX10_chosen 194 = .ok (.iadd, 1) := by decide +kernel
theorem dX10_chosen_195 : decode cX10_chosen 195 = .ok (.iaload, 1) := by decide +kernel
theorem dX10_chosen_196 : decode cX10_chosen 196 = .ok (.aload_n 0, 1) := by decide +kernel
theorem dX10_chosen_197 : decode cX10_chosen 197 = .ok (.iload 4, 2) := by decide +kernel
theorem dX10_chosen_199 : decode cX10_chosen 199 = .ok (.iload 7, 2) := by decide +kernel
theorem dX10_chosen_201 : decode cX10_chosen 201 = .ok (.invokevirtual 139, 3) := by decide +kernel
theorem dX10_chosen_204 : decode cX10_chosen 204 = .ok (.iadd, 1) := by decide +kernel
theorem dX10_chosen_205 : decode cX10_chosen 205 = .ok (.istore 8, 2) := by decide +kernel
theorem dX10_chosen_207 : decode cX10_chosen 207 = .ok (.iload 8, 2) := by decide +kernel
theorem dX10_chosen_209 : decode cX10_chosen 209 = .ok (.ifCond .lt 20, 3) := by decide +kernel
theorem dX10_chosen_212 : decode cX10_chosen 212 = .ok (.iload 6, 2) := by decide +kernel
theorem dX10_chosen_214 : decode cX10_chosen 214 = .ok (.ifCond .lt 10, 3) := by decide +kernel
theorem dX10_chosen_217 : decode cX10_chosen 217 = .ok (.iload 8, 2) := by decide +kernel
theorem dX10_chosen_219 : decode cX10_chosen 219 = .ok (.iload 6, 2) := by decide +kernel
theorem dX10_chosen_221 : decode cX10_chosen 221 = .ok (.if_icmp .ge 8, 3) := by decide +kernel
theorem dX10_chosen_224 : decode cX10_chosen 224 = .ok (.iload 8, 2) := by decide +kernel
theorem dX10_chosen_226 : decode cX10_chosen 226 = .ok (.goto 5, 3) := by decide +kernel
theorem dX10_chosen_229 : decode cX10_chosen 229 = .ok (.iload 6, 2) := by decide +kernel
theorem dX10_chosen_231 : decode cX10_chosen 231 = .ok (.istore 6, 2) := by decide +kernel
theorem dX10_chosen_233 : decode cX10_chosen 233 = .ok (.iinc 7 1, 3) := by decide +kernel
theorem dX10_chosen_236 : decode cX10_chosen 236 = .ok (.goto (-94), 3) := by decide +kernel
theorem dX10_chosen_239 : decode cX10_chosen 239 = .ok (.aload_n 0, 1) := by decide +kernel
theorem dX10_chosen_240 : decode cX10_chosen 240 = .ok (.getfield 56, 3) := by decide +kernel
theorem dX10_chosen_243 : decode cX10_chosen 243 = .ok (.bipush 60, 2) := by decide +kernel
theorem dX10_chosen_245 : decode cX10_chosen 245 = .ok (.iload_n 3, 1) := by decide +kernel
theorem dX10_chosen_246 : decode cX10_chosen 246 = .ok (.imul, 1) := by decide +kernel
theorem dX10_chosen_247 : decode cX10_chosen 247 = .ok (.iload 4, 2) := by decide +kernel
theorem dX10_chosen_249 : decode cX10_chosen 249 = .ok (.iadd, 1) := by decide +kernel
theorem dX10_chosen_250 : decode cX10_chosen 250 = .ok (.iload 5, 2) := by decide +kernel
theorem dX10_chosen_252 : decode cX10_chosen 252 = .ok (.iastore, 1) := by decide +kernel
theorem dX10_chosen_253 : decode cX10_chosen 253 = .ok (.aload_n 0, 1) := by decide +kernel
theorem dX10_chosen_254 : decode cX10_chosen 254 = .ok (.getfield 59, 3) := by decide +kernel
theorem dX10_chosen_257 : decode cX10_chosen 257 = .ok (.bipush 60, 2) := by decide +kernel
theorem dX10_chosen_259 : decode cX10_chosen 259 = .ok (.iload_n 3, 1) := by decide +kernel
theorem dX10_chosen_260 : decode cX10_chosen 260 = .ok (.imul, 1) := by decide +kernel
theorem dX10_chosen_261 : decode cX10_chosen 261 = .ok (.iload 4, 2) := by decide +kernel
theorem dX10_chosen_263 : decode cX10_chosen 263 = .ok (.iadd, 1) := by decide +kernel
theorem dX10_chosen_264 : decode cX10_chosen 264 = .ok (.iload 5, 2) := by decide +kernel
theorem dX10_chosen_266 : decode cX10_chosen 266 = .ok (.iload_n 1, 1) := by decide +kernel
theorem dX10_chosen_267 : decode cX10_chosen 267 = .ok (.if_icmp .gt 8, 3) := by decide +kernel
theorem dX10_chosen_270 : decode cX10_chosen 270 = .ok (.iload 6, 2) := by decide +kernel
theorem dX10_chosen_272 : decode cX10_chosen 272 = .ok (.ifCond .ge 7, 3) := by decide +kernel
theorem dX10_chosen_275 : decode cX10_chosen 275 = .ok (.iconst (-1), 1) := by decide +kernel
theorem dX10_chosen_276 : decode cX10_chosen 276 = .ok (.goto 8, 3) := by decide +kernel
theorem dX10_chosen_279 : decode cX10_chosen 279 = .ok (.iload 5, 2) := by decide +kernel
theorem dX10_chosen_281 : decode cX10_chosen 281 = .ok (.iload 6, 2) := by decide +kernel
theorem dX10_chosen_283 : decode cX10_chosen 283 = .ok (.iadd, 1) := by decide +kernel
theorem dX10_chosen_284 : decode cX10_chosen 284 = .ok (.iastore, 1) := by decide +kernel
theorem dX10_chosen_285 : decode cX10_chosen 285 = .ok (.iinc 4 1, 3) := by decide +kernel
theorem dX10_chosen_288 : decode cX10_chosen 288 = .ok (.goto (-183), 3) := by decide +kernel
theorem dX10_chosen_291 : decode cX10_chosen 291 = .ok (.iinc 3 (-1), 3) := by decide +kernel
theorem dX10_chosen_294 : decode cX10_chosen 294 = .ok (.goto (-243), 3) := by decide +kernel
theorem dX10_chosen_297 : decode cX10_chosen 297 = .ok (.iconst (-1), 1) := by decide +kernel
theorem dX10_chosen_298 : decode cX10_chosen 298 = .ok (.istore_n 3, 1) := by decide +kernel
theorem dX10_chosen_299 : decode cX10_chosen 299 = .ok (.iconst (-1), 1) := by decide +kernel
theorem dX10_chosen_300 : decode cX10_chosen 300 = .ok (.istore 4, 2) := by decide +kernel
theorem dX10_chosen_302 : decode cX10_chosen 302 = .ok (.iconst 0, 1) := by decide +kernel
theorem dX10_chosen_303 : decode cX10_chosen 303 = .ok (.istore 5, 2) := by decide +kernel
theorem dX10_chosen_305 : decode cX10_chosen 305 = .ok (.iload 5, 2) := by decide +kernel
theorem dX10_chosen_307 : decode cX10_chosen 307 = .ok (.aload_n 0, 1) := by decide +kernel
theorem dX10_chosen_308 : decode cX10_chosen 308 = .ok (.getfield 66, 3) := by decide +kernel
theorem dX10_chosen_311 : decode cX10_chosen 311 = .ok (.if_icmp .ge 50, 3) := by decide +kernel
theorem dX10_chosen_314 : decode cX10_chosen 314 = .ok (.aload_n 0, 1) := by decide +kernel
theorem dX10_chosen_315 : decode cX10_chosen 315 = .ok (.getfield 59, 3) := by decide +kernel
theorem dX10_chosen_318 : decode cX10_chosen 318 = .ok (.iload 5, 2) := by decide +kernel
theorem dX10_chosen_320 : decode cX10_chosen 320 = .ok (.iaload, 1) := by decide +kernel
theorem dX10_chosen_321 : decode cX10_chosen 321 = .ok (.ifCond .lt 30, 3) := by decide +kernel
theorem dX10_chosen_324 : decode cX10_chosen 324 = .ok (.iload 4, 2) := by decide +kernel
theorem dX10_chosen_326 : decode cX10_chosen 326 = .ok (.ifCond .lt 15, 3) := by decide +kernel
theorem dX10_chosen_329 : decode cX10_chosen 329 = .ok (.aload_n 0, 1) := by decide +kernel
theorem dX10_chosen_330 : decode cX10_chosen 330 = .ok (.getfield 59, 3) := by decide +kernel
theorem dX10_chosen_333 : decode cX10_chosen 333 = .ok (.iload 5, 2) := by decide +kernel
theorem dX10_chosen_335 : decode cX10_chosen 335 = .ok (.iaload, 1) := by decide +kernel
theorem dX10_chosen_336 : decode cX10_chosen 336 = .ok (.iload 4, 2) := by decide +kernel
theorem dX10_chosen_338 : decode cX10_chosen 338 = .ok (.if_icmp .ge 13, 3) := by decide +kernel
theorem dX10_chosen_341 : decode cX10_chosen 341 = .ok (.aload_n 0, 1) := by decide +kernel
theorem dX10_chosen_342 : decode cX10_chosen 342 = .ok (.getfield 59, 3) := by decide +kernel
theorem dX10_chosen_345 : decode cX10_chosen 345 = .ok (.iload 5, 2) := by decide +kernel
theorem dX10_chosen_347 : decode cX10_chosen 347 = .ok (.iaload, 1) := by decide +kernel
theorem dX10_chosen_348 : decode cX10_chosen 348 = .ok (.goto 5, 3) := by decide +kernel
theorem dX10_chosen_351 : decode cX10_chosen 351 = .ok (.iload 4, 2) := by decide +kernel
theorem dX10_chosen_353 : decode cX10_chosen 353 = .ok (.istore 4, 2) := by decide +kernel
theorem dX10_chosen_355 : decode cX10_chosen 355 = .ok (.iinc 5 1, 3) := by decide +kernel
theorem dX10_chosen_358 : decode cX10_chosen 358 = .ok (.goto (-53), 3) := by decide +kernel
theorem dX10_chosen_361 : decode cX10_chosen 361 = .ok (.iload 4, 2) := by decide +kernel
theorem dX10_chosen_363 : decode cX10_chosen 363 = .ok (.ifCond .lt 7, 3) := by decide +kernel
theorem dX10_chosen_366 : decode cX10_chosen 366 = .ok (.iload_n 2, 1) := by decide +kernel
theorem dX10_chosen_367 : decode cX10_chosen 367 = .ok (.ifCond .ge 16, 3) := by decide +kernel
theorem dX10_chosen_370 : decode cX10_chosen 370 = .ok (.iload 4, 2) := by decide +kernel
theorem dX10_chosen_372 : decode cX10_chosen 372 = .ok (.ifCond .ge 8, 3) := by decide +kernel
theorem dX10_chosen_375 : decode cX10_chosen 375 = .ok (.bipush (-3), 2) := by decide +kernel
theorem dX10_chosen_377 : decode cX10_chosen 377 = .ok (.goto 5, 3) := by decide +kernel
theorem dX10_chosen_380 : decode cX10_chosen 380 = .ok (.iload 4, 2) := by decide +kernel
theorem dX10_chosen_382 : decode cX10_chosen 382 = .ok (.ireturn, 1) := by decide +kernel
theorem dX10_chosen_383 : decode cX10_chosen 383 = .ok (.iconst 0, 1) := by decide +kernel
theorem dX10_chosen_384 : decode cX10_chosen 384 = .ok (.istore 5, 2) := by decide +kernel
theorem dX10_chosen_386 : decode cX10_chosen 386 = .ok (.iload 5, 2) := by decide +kernel
theorem dX10_chosen_388 : decode cX10_chosen 388 = .ok (.iload_n 2, 1) := by decide +kernel
theorem dX10_chosen_389 : decode cX10_chosen 389 = .ok (.if_icmp .gt 143, 3) := by decide +kernel
theorem dX10_chosen_392 : decode cX10_chosen 392 = .ok (.iconst (-1), 1) := by decide +kernel
theorem dX10_chosen_393 : decode cX10_chosen 393 = .ok (.istore 6, 2) := by decide +kernel
theorem dX10_chosen_395 : decode cX10_chosen 395 = .ok (.iconst 0, 1) := by decide +kernel
theorem dX10_chosen_396 : decode cX10_chosen 396 = .ok (.istore 7, 2) := by decide +kernel
theorem dX10_chosen_398 : decode cX10_chosen 398 = .ok (.iload 7, 2) := by decide +kernel
theorem dX10_chosen_400 : decode cX10_chosen 400 = .ok (.aload_n 0, 1) := by decide +kernel
theorem dX10_chosen_401 : decode cX10_chosen 401 = .ok (.getfield 66, 3) := by decide +kernel
theorem dX10_chosen_404 : decode cX10_chosen 404 = .ok (.if_icmp .ge 84, 3) := by decide +kernel
theorem dX10_chosen_407 : decode cX10_chosen 407 = .ok (.iload 5, 2) := by decide +kernel
theorem dX10_chosen_409 : decode cX10_chosen 409 = .ok (.ifCond .ne 7, 3) := by decide +kernel
theorem dX10_chosen_412 : decode cX10_chosen 412 = .ok (.iconst 0, 1) := by decide +kernel
theorem dX10_chosen_413 : decode cX10_chosen 413 = .ok (.goto 10, 3) := by decide +kernel
theorem dX10_chosen_416 : decode cX10_chosen 416 = .ok (.aload_n 0, 1) := by decide +kernel
theorem dX10_chosen_417 : decode cX10_chosen 417 = .ok (.iload_n 3, 1) := by decide +kernel
theorem dX10_chosen_418 : decode cX10_chosen 418 = .ok (.iload 7, 2) := by decide +kernel
theorem dX10_chosen_420 : decode cX10_chosen 420 = .ok (.invokevirtual 139, 3) := by decide +kernel
theorem dX10_chosen_423 : decode cX10_chosen 423 = .ok (.istore 8, 2) := by decide +kernel
theorem dX10_chosen_425 : decode cX10_chosen 425 = .ok (.aload_n 0, 1) := by decide +kernel
theorem dX10_chosen_426 : decode cX10_chosen 426 = .ok (.getfield 59, 3) := by decide +kernel
theorem dX10_chosen_429 : decode cX10_chosen 429 = .ok (.bipush 60, 2) := by decide +kernel
theorem dX10_chosen_431 : decode cX10_chosen 431 = .ok (.iload 5, 2) := by decide +kernel
theorem dX10_chosen_433 : decode cX10_chosen 433 = .ok (.imul, 1) := by decide +kernel
theorem dX10_chosen_434 : decode cX10_chosen 434 = .ok (.iload 7, 2) := by decide +kernel
theorem dX10_chosen_436 : decode cX10_chosen 436 = .ok (.iadd, 1) := by decide +kernel
theorem dX10_chosen_437 : decode cX10_chosen 437 = .ok (.iaload, 1) := by decide +kernel
theorem dX10_chosen_438 : decode cX10_chosen 438 = .ok (.ifCond .lt 44, 3) := by decide +kernel
theorem dX10_chosen_441 : decode cX10_chosen 441 = .ok (.aload_n 0, 1) := by decide +kernel
theorem dX10_chosen_442 : decode cX10_chosen 442 = .ok (.getfield 59, 3) := by decide +kernel
theorem dX10_chosen_445 : decode cX10_chosen 445 = .ok (.bipush 60, 2) := by decide +kernel
theorem dX10_chosen_447 : decode cX10_chosen 447 = .ok (.iload 5, 2) := by decide +kernel
theorem dX10_chosen_449 : decode cX10_chosen 449 = .ok (.imul, 1) := by decide +kernel
theorem dX10_chosen_450 : decode cX10_chosen 450 = .ok (.iload 7, 2) := by decide +kernel
theorem dX10_chosen_452 : decode cX10_chosen 452 = .ok (.iadd, 1) := by decide +kernel
theorem dX10_chosen_453 : decode cX10_chosen 453 = .ok (.iaload, 1) := by decide +kernel
theorem dX10_chosen_454 : decode cX10_chosen 454 = .ok (.iload 8, 2) := by decide +kernel
theorem dX10_chosen_456 : decode cX10_chosen 456 = .ok (.iadd, 1) := by decide +kernel
theorem dX10_chosen_457 : decode cX10_chosen 457 = .ok (.iload 4, 2) := by decide +kernel
theorem dX10_chosen_459 : decode cX10_chosen 459 = .ok (.if_icmp .ne 23, 3) := by decide +kernel
theorem dX10_chosen_462 : decode cX10_chosen 462 = .ok (.iload 6, 2) := by decide +kernel
theorem dX10_chosen_464 : decode cX10_chosen 464 = .ok (.ifCond .lt 14, 3) := by decide +kernel
theorem dX10_chosen_467 : decode cX10_chosen 467 = .ok (.aload_n 0, 1) := by decide +kernel
theorem dX10_chosen_468 : decode cX10_chosen 468 = .ok (.iload 7, 2) := by decide +kernel
theorem dX10_chosen_470 : decode cX10_chosen 470 = .ok (.iload 6, 2) := by decide +kernel
theorem dX10_chosen_472 : decode cX10_chosen 472 = .ok (.invokevirtual 80, 3) := by decide +kernel
theorem dX10_chosen_475 : decode cX10_chosen 475 = .ok (.ifCond .eq 7, 3) := by decide +kernel
theorem dX10_chosen_478 : decode cX10_chosen 478 = .ok (.iload 7, 2) := by decide +kernel
theorem dX10_chosen_480 : decode cX10_chosen 480 = .ok (.istore 6, 2) := by decide +kernel
theorem dX10_chosen_482 : decode cX10_chosen 482 = .ok (.iinc 7 1, 3) := by decide +kernel
theorem dX10_chosen_485 : decode cX10_chosen 485 = .ok (.goto (-87), 3) := by decide +kernel
theorem dX10_chosen_488 : decode cX10_chosen 488 = .ok (.iload 4, 2) := by decide +kernel
theorem dX10_chosen_490 : decode cX10_chosen 490 = .ok (.iload 5, 2) := by decide +kernel
theorem dX10_chosen_492 : decode cX10_chosen 492 = .ok (.ifCond .ne 7, 3) := by decide +kernel
theorem dX10_chosen_495 : decode cX10_chosen 495 = .ok (.iconst 0, 1) := by decide +kernel
theorem dX10_chosen_496 : decode cX10_chosen 496 = .ok (.goto 10, 3) := by decide +kernel
theorem dX10_chosen_499 : decode cX10_chosen 499 = .ok (.aload_n 0, 1) := by decide +kernel
theorem dX10_chosen_500 : decode cX10_chosen 500 = .ok (.iload_n 3, 1) := by decide +kernel
theorem dX10_chosen_501 : decode cX10_chosen 501 = .ok (.iload 6, 2) := by decide +kernel
theorem dX10_chosen_503 : decode cX10_chosen 503 = .ok (.invokevirtual 139, 3) := by decide +kernel
theorem dX10_chosen_506 : decode cX10_chosen 506 = .ok (.aload_n 0, 1) := by decide +kernel
theorem dX10_chosen_507 : decode cX10_chosen 507 = .ok (.getfield 56, 3) := by decide +kernel
theorem dX10_chosen_510 : decode cX10_chosen 510 = .ok (.bipush 60, 2) := by decide +kernel
theorem dX10_chosen_512 : decode cX10_chosen 512 = .ok (.iload 5, 2) := by decide +kernel
theorem dX10_chosen_514 : decode cX10_chosen 514 = .ok (.imul, 1) := by decide +kernel
theorem dX10_chosen_515 : decode cX10_chosen 515 = .ok (.iload 6, 2) := by decide +kernel
theorem dX10_chosen_517 : decode cX10_chosen 517 = .ok (.iadd, 1) := by decide +kernel
theorem dX10_chosen_518 : decode cX10_chosen 518 = .ok (.iaload, 1) := by decide +kernel
theorem dX10_chosen_519 : decode cX10_chosen 519 = .ok (.iadd, 1) := by decide +kernel
theorem dX10_chosen_520 : decode cX10_chosen 520 = .ok (.isub, 1) := by decide +kernel
theorem dX10_chosen_521 : decode cX10_chosen 521 = .ok (.istore 4, 2) := by decide +kernel
theorem dX10_chosen_523 : decode cX10_chosen 523 = .ok (.iload 6, 2) := by decide +kernel
theorem dX10_chosen_525 : decode cX10_chosen 525 = .ok (.istore_n 3, 1) := by decide +kernel
theorem dX10_chosen_526 : decode cX10_chosen 526 = .ok (.iinc 5 1, 3) := by decide +kernel
theorem dX10_chosen_529 : decode cX10_chosen 529 = .ok (.goto (-143), 3) := by decide +kernel
theorem dX10_chosen_532 : decode cX10_chosen 532 = .ok (.iload_n 3, 1) := by decide +kernel
theorem dX10_chosen_533 : decode cX10_chosen 533 = .ok (.ireturn, 1) := by decide +kernel
theorem dX10_share_0 : decode cX10_share 0 = .ok (.aload_n 0, 1) := by decide +kernel
theorem dX10_share_1 : decode cX10_share 1 = .ok (.iconst 0, 1) := by decide +kernel
theorem dX10_share_2 : decode cX10_share 2 = .ok (.putfield 62, 3) := by decide +kernel
theorem dX10_share_5 : decode cX10_share 5 = .ok (.aload_n 0, 1) := by decide +kernel
theorem dX10_share_6 : decode cX10_share 6 = .ok (.iload_n 1, 1) := by decide +kernel
theorem dX10_share_7 : decode cX10_share 7 = .ok (.invokevirtual 76, 3) := by decide +kernel
theorem dX10_share_10 : decode cX10_share 10 = .ok (.ifCond .ne 5, 3) := by decide +kernel
theorem dX10_share_13 : decode cX10_share 13 = .ok (.iconst (-1), 1) := by decide +kernel
theorem dX10_share_14 : decode cX10_share 14 = .ok (.ireturn, 1) := by decide +kernel
theorem dX10_share_15 : decode cX10_share 15 = .ok (.aload_n 0, 1) := by decide +kernel
theorem dX10_share_16 : decode cX10_share 16 = .ok (.getfield 73, 3) := by decide +kernel
theorem dX10_share_19 : decode cX10_share 19 = .ok (.ifCond .ne 10, 3) := by decide +kernel
theorem dX10_share_22 : decode cX10_share 22 = .ok (.aload_n 0, 1) := by decide +kernel
theorem dX10_share_23 : decode cX10_share 23 = .ok (.iconst 1, 1) := by decide +kernel
theorem dX10_share_24 : decode cX10_share 24 = .ok (.putfield 62, 3) := by decide +kernel
theorem dX10_share_27 : decode cX10_share 27 = .ok (.iconst 0, 1) := by decide +kernel
theorem dX10_share_28 : decode cX10_share 28 = .ok (.ireturn, 1) := by decide +kernel
theorem dX10_share_29 : decode cX10_share 29 = .ok (.aload_n 0, 1) := by decide +kernel
theorem dX10_share_30 : decode cX10_share 30 = .ok (.iconst 0, 1) := by decide +kernel
theorem dX10_share_31 : decode cX10_share 31 = .ok (.aload_n 0, 1) := by decide +kernel
theorem dX10_share_32 : decode cX10_share 32 = .ok (.getfield 73, 3) := by decide +kernel
theorem dX10_share_35 : decode cX10_share 35 = .ok (.invokevirtual 102, 3) := by decide +kernel
theorem dX10_share_38 : decode cX10_share 38 = .ok (.sipush 1000, 3) := by decide +kernel
theorem dX10_share_41 : decode cX10_share 41 = .ok (.aload_n 0, 1) := by decide +kernel
theorem dX10_share_42 : decode cX10_share 42 = .ok (.iload_n 1, 1) := by decide +kernel
theorem dX10_share_43 : decode cX10_share 43 = .ok (.invokevirtual 99, 3) := by decide +kernel
theorem dX10_share_46 : decode cX10_share 46 = .ok (.imul, 1) := by decide +kernel
theorem dX10_share_47 : decode cX10_share 47 = .ok (.aload_n 0, 1) := by decide +kernel
theorem dX10_share_48 : decode cX10_share 48 = .ok (.getfield 73, 3) := by decide +kernel
theorem dX10_share_51 : decode cX10_share 51 = .ok (.idiv, 1) := by decide +kernel
theorem dX10_share_52 : decode cX10_share 52 = .ok (.ireturn, 1) := by decide +kernel
