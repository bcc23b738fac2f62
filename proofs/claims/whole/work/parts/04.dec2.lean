theorem dX5_init_0 : decode cX5_init 0 = .ok (.aload_n 0, 1) := by decide +kernel
theorem dX5_init_1 : decode cX5_init 1 = .ok (.invokespecial 1, 3) := by decide +kernel
theorem dX5_init_4 : decode cX5_init 4 = .ok (.aload_n 0, 1) := by decide +kernel
theorem dX5_init_5 : decode cX5_init 5 = .ok (.bipush 17, 2) := by decide +kernel
theorem dX5_init_7 : decode cX5_init 7 = .ok (.newarray .int, 2) := by decide +kernel
theorem dX5_init_9 : decode cX5_init 9 = .ok (.putfield 7, 3) := by decide +kernel
theorem dX5_init_12 : decode cX5_init 12 = .ok (.aload_n 0, 1) := by decide +kernel
theorem dX5_init_13 : decode cX5_init 13 = .ok (.bipush 6, 2) := by decide +kernel
theorem dX5_init_15 : decode cX5_init 15 = .ok (.newarray .int, 2) := by decide +kernel
theorem dX5_init_17 : decode cX5_init 17 = .ok (.putfield 13, 3) := by decide +kernel
theorem dX5_init_20 : decode cX5_init 20 = .ok (.aload_n 0, 1) := by decide +kernel
theorem dX5_init_21 : decode cX5_init 21 = .ok (.bipush 6, 2) := by decide +kernel
theorem dX5_init_23 : decode cX5_init 23 = .ok (.newarray .int, 2) := by decide +kernel
theorem dX5_init_25 : decode cX5_init 25 = .ok (.putfield 16, 3) := by decide +kernel
theorem dX5_init_28 : decode cX5_init 28 = .ok (.aload_n 0, 1) := by decide +kernel
theorem dX5_init_29 : decode cX5_init 29 = .ok (.bipush 6, 2) := by decide +kernel
theorem dX5_init_31 : decode cX5_init 31 = .ok (.newarray .boolean, 2) := by decide +kernel
theorem dX5_init_33 : decode cX5_init 33 = .ok (.putfield 19, 3) := by decide +kernel
theorem dX5_init_36 : decode cX5_init 36 = .ok (.aload_n 0, 1) := by decide +kernel
theorem dX5_init_37 : decode cX5_init 37 = .ok (.bipush 6, 2) := by decide +kernel
theorem dX5_init_39 : decode cX5_init 39 = .ok (.newarray .int, 2) := by decide +kernel
theorem dX5_init_41 : decode cX5_init 41 = .ok (.putfield 23, 3) := by decide +kernel
theorem dX5_init_44 : decode cX5_init 44 = .ok (.aload_n 0, 1) := by decide +kernel
theorem dX5_init_45 : decode cX5_init 45 = .ok (.bipush 6, 2) := by decide +kernel
theorem dX5_init_47 : decode cX5_init 47 = .ok (.newarray .int, 2) := by decide +kernel
theorem dX5_init_49 : decode cX5_init 49 = .ok (.putfield 26, 3) := by decide +kernel
theorem dX5_init_52 : decode cX5_init 52 = .ok (.aload_n 0, 1) := by decide +kernel
theorem dX5_init_53 : decode cX5_init 53 = .ok (.bipush 6, 2) := by decide +kernel
theorem dX5_init_55 : decode cX5_init 55 = .ok (.newarray .boolean, 2) := by decide +kernel
theorem dX5_init_57 : decode cX5_init 57 = .ok (.putfield 29, 3) := by decide +kernel
theorem dX5_init_60 : decode cX5_init 60 = .ok (.aload_n 0, 1) := by decide +kernel
theorem dX5_init_61 : decode cX5_init 61 = .ok (.bipush 6, 2) := by decide +kernel
theorem dX5_init_63 : decode cX5_init 63 = .ok (.newarray .int, 2) := by decide +kernel
theorem dX5_init_65 : decode cX5_init 65 = .ok (.putfield 32, 3) := by decide +kernel
theorem dX5_init_68 : decode cX5_init 68 = .ok (.aload_n 0, 1) := by decide +kernel
theorem dX5_init_69 : decode cX5_init 69 = .ok (.bipush 6, 2) := by decide +kernel
theorem dX5_init_71 : decode cX5_init 71 = .ok (.newarray .int, 2) := by decide +kernel
theorem dX5_init_73 : decode cX5_init 73 = .ok (.putfield 35, 3) := by decide +kernel
theorem dX5_init_76 : decode cX5_init 76 = .ok (.aload_n 0, 1) := by decide +kernel
theorem dX5_init_77 : decode cX5_init 77 = .ok (.iconst 2, 1) := by decide +kernel
theorem dX5_init_78 : decode cX5_init 78 = .ok (.putfield 38, 3) := by decide +kernel
theorem dX5_init_81 : decode cX5_init 81 = .ok (.aload_n 0, 1) := by decide +kernel
theorem dX5_init_82 : decode cX5_init 82 = .ok (.iconst 2, 1) := by decide +kernel
theorem dX5_init_83 : decode cX5_init 83 = .ok (.putfield 42, 3) := by decide +kernel
theorem dX5_init_86 : decode cX5_init 86 = .ok (.aload_n 0, 1) := by decide +kernel
theorem dX5_init_87 : decode cX5_init 87 = .ok (.sipush 144, 3) := by decide +kernel
theorem dX5_init_90 : decode cX5_init 90 = .ok (.newarray .int, 2) := by decide +kernel
theorem dX5_init_92 : decode cX5_init 92 = .ok (.putfield 45, 3) := by decide +kernel
theorem dX5_init_95 : decode cX5_init 95 = .ok (.aload_n 0, 1) := by decide +kernel
theorem dX5_init_96 : decode cX5_init 96 = .ok (.sipush 144, 3) := by decide +kernel
theorem dX5_init_99 : decode cX5_init 99 = .ok (.newarray .int, 2) := by decide +kernel
theorem dX5_init_101 : decode cX5_init 101 = .ok (.putfield 48, 3) := by decide +kernel
theorem dX5_init_104 : decode cX5_init 104 = .ok (.aload_n 0, 1) := by decide +kernel
theorem dX5_init_105 : decode cX5_init 105 = .ok (.bipush 6, 2) := by decide +kernel
theorem dX5_init_107 : decode cX5_init 107 = .ok (.newarray .int, 2) := by decide +kernel
theorem dX5_init_109 : decode cX5_init 109 = .ok (.putfield 51, 3) := by decide +kernel
theorem dX5_init_112 : decode cX5_init 112 = .ok (.aload_n 0, 1) := by decide +kernel
theorem dX5_init_113 : decode cX5_init 113 = .ok (.bipush 12, 2) := by decide +kernel
theorem dX5_init_115 : decode cX5_init 115 = .ok (.newarray .int, 2) := by decide +kernel
theorem dX5_init_117 : decode cX5_init 117 = .ok (.putfield 54, 3) := by decide +kernel
theorem dX5_init_120 : decode cX5_init 120 = .ok (.aload_n 0, 1) := by decide +kernel
theorem dX5_init_121 : decode cX5_init 121 = .ok (.bipush 12, 2) := by decide +kernel
theorem dX5_init_123 : decode cX5_init 123 = .ok (.newarray .boolean, 2) := by decide +kernel
theorem dX5_init_125 : decode cX5_init 125 = .ok (.putfield 57, 3) := by decide +kernel
theorem dX5_init_128 : decode cX5_init 128 = .ok (.aload_n 0, 1) := by decide +kernel
theorem dX5_init_129 : decode cX5_init 129 = .ok (.bipush 12, 2) := by decide +kernel
theorem dX5_init_131 : decode cX5_init 131 = .ok (.newarray .int, 2) := by decide +kernel
theorem dX5_init_133 : decode cX5_init 133 = .ok (.putfield 60, 3) := by decide +kernel
theorem dX5_init_136 : decode cX5_init 136 = .ok (.aload_n 0, 1) := by decide +kernel
theorem dX5_init_137 : decode cX5_init 137 = .ok (.bipush 96, 2) := by decide +kernel
theorem dX5_init_139 : decode cX5_init 139 = .ok (.newarray .int, 2) := by decide +kernel
theorem dX5_init_141 : decode cX5_init 141 = .ok (.putfield 63, 3) := by decide +kernel
theorem dX5_init_144 : decode cX5_init 144 = .ok (.aload_n 0, 1) := by decide +kernel
theorem dX5_init_145 : decode cX5_init 145 = .ok (.bipush 12, 2) := by decide +kernel
theorem dX5_init_147 : decode cX5_init 147 = .ok (.newarray .int, 2) := by decide +kernel
theorem dX5_init_149 : decode cX5_init 149 = .ok (.putfield 66, 3) := by decide +kernel
theorem dX5_init_152 : decode cX5_init 152 = .ok (.aload_n 0, 1) := by decide +kernel
theorem dX5_init_153 : decode cX5_init 153 = .ok (.bipush 12, 2) := by decide +kernel
theorem dX5_init_155 : decode cX5_init 155 = .ok (.newarray .int, 2) := by decide +kernel
theorem dX5_init_157 : decode cX5_init 157 = .ok (.putfield 69, 3) := by decide +kernel
theorem dX5_init_160 : decode cX5_init 160 = .ok (.aload_n 0, 1) := by decide +kernel
theorem dX5_init_161 : decode cX5_init 161 = .ok (.bipush 12, 2) := by decide +kernel
theorem dX5_init_163 : decode cX5_init 163 = .ok (.newarray .int, 2) := by decide +kernel
theorem dX5_init_165 : decode cX5_init 165 = .ok (.putfield 72, 3) := by decide +kernel
theorem dX5_init_168 : decode cX5_init 168 = .ok (.aload_n 0, 1) := by decide +kernel
theorem dX5_init_169 : decode cX5_init 169 = .ok (.bipush 12, 2) := by decide +kernel
theorem dX5_init_171 : decode cX5_init 171 = .ok (.newarray .int, 2) := by decide +kernel
theorem dX5_init_173 : decode cX5_init 173 = .ok (.putfield 75, 3) := by decide +kernel
theorem dX5_init_176 : decode cX5_init 176 = .ok (.aload_n 0, 1) := by decide +kernel
theorem dX5_init_177 : decode cX5_init 177 = .ok (.bipush 24, 2) := by decide +kernel
theorem dX5_init_179 : decode cX5_init 179 = .ok (.newarray .int, 2) := by decide +kernel
theorem dX5_init_181 : decode cX5_init 181 = .ok (.putfield 78, 3) := by decide +kernel
theorem dX5_init_184 : decode cX5_init 184 = .ok (.aload_n 0, 1) := by decide +kernel
theorem dX5_init_185 : decode cX5_init 185 = .ok (.invokevirtual 81, 3) := by decide +kernel
theorem dX5_init_188 : decode cX5_init 188 = .ok (.return_, 1) := by decide +kernel
theorem dX5_within_0 : decode cX5_within 0 = .ok (.iload_n 0, 1) := by decide +kernel
theorem dX5_within_1 : decode cX5_within 1 = .ok (.iload_n 1, 1) := by decide +kernel
theorem dX5_within_2 : decode cX5_within 2 = .ok (.if_icmp .lt 12, 3) := by decide +kernel
theorem dX5_within_5 : decode cX5_within 5 = .ok (.iload_n 0, 1) := by decide +kernel
theorem dX5_within_6 : decode cX5_within 6 = .ok (.iload_n 2, 1) := by decide +kernel
theorem dX5_within_7 : decode cX5_within 7 = .ok (.if_icmp .gt 7, 3) := by decide +kernel
theorem dX5_within_10 : decode cX5_within 10 = .ok (.iconst 1, 1) := by decide +kernel
theorem dX5_within_11 : decode cX5_within 11 = .ok (.goto 4, 3) := by decide +kernel
theorem dX5_within_14 : decode cX5_within 14 = .ok (.iconst 0, 1) := by decide +kernel
theorem dX5_within_15 : decode cX5_within 15 = .ok (.ireturn, 1) := by decide +kernel
theorem dX5_letter_0 : decode cX5_letter 0 = .ok (.iload_n 1, 1) := by decide +kernel
theorem dX5_letter_1 : decode cX5_letter 1 = .ok (.bipush 32, 2) := by decide +kernel
theorem dX5_letter_3 : decode cX5_letter 3 = .ok (.bipush 126, 2) := by decide +kernel
theorem dX5_letter_5 : decode cX5_letter 5 = .ok (.invokestatic 84, 3) := by decide +kernel
theorem dX5_letter_8 : decode cX5_letter 8 = .ok (.ifCond .ne 7, 3) := by decide +kernel
theorem dX5_letter_11 : decode cX5_letter 11 = .ok (.sipush (-1002), 3) := by decide +kernel
theorem dX5_letter_14 : decode cX5_letter 14 = .ok (.ireturn, 1) := by decide +kernel
theorem dX5_letter_15 : decode cX5_letter 15 = .ok (.aload_n 0, 1) := by decide +kernel
theorem dX5_letter_16 : decode cX5_letter 16 = .ok (.getfield 88, 3) := by decide +kernel
theorem dX5_letter_19 : decode cX5_letter 19 = .ok (.bipush 17, 2) := by decide +kernel
theorem dX5_letter_21 : decode cX5_letter 21 = .ok (.if_icmp .ne 7, 3) := by decide +kernel
theorem dX5_letter_24 : decode cX5_letter 24 = .ok (.sipush (-1004), 3) := by decide +kernel
theorem dX5_letter_27 : decode cX5_letter 27 = .ok (.ireturn, 1) := by decide +kernel
theorem dX5_letter_28 : decode cX5_letter 28 = .ok (.aload_n 0, 1) := by decide +kernel
theorem dX5_letter_29 : decode cX5_letter 29 = .ok (.getfield 7, 3) := by decide +kernel
theorem dX5_letter_32 : decode cX5_letter 32 = .ok (.aload_n 0, 1) := by decide +kernel
theorem dX5_letter_33 : decode cX5_letter 33 = .ok (.getfield 88, 3) := by decide +kernel
theorem dX5_letter_36 : decode cX5_letter 36 = .ok (.iload_n 1, 1) := by decide +kernel
theorem dX5_letter_37 : decode cX5_letter 37 = .ok (.iastore, 1) := by decide +kernel
theorem dX5_letter_38 : decode cX5_letter 38 = .ok (.aload_n 0, 1) := by decide +kernel
theorem dX5_letter_39 : decode cX5_letter 39 = .ok (.dup, 1) := by decide +kernel
theorem dX5_letter_40 : decode cX5_letter 40 = .ok (.getfield 88, 3) := by decide +kernel
theorem dX5_letter_43 : decode cX5_letter 43 = .ok (.iconst 1, 1) := by decide +kernel
theorem dX5_letter_44 : decode cX5_letter 44 = .ok (.iadd, 1) := by decide +kernel
theorem dX5_letter_45 : decode cX5_letter 45 = .ok (.putfield 88, 3) := by decide +kernel
theorem dX5_letter_48 : decode cX5_letter 48 = .ok (.aload_n 0, 1) := by decide +kernel
theorem dX5_letter_49 : decode cX5_letter 49 = .ok (.getfield 88, 3) := by decide +kernel
theorem dX5_letter_52 : decode cX5_letter 52 = .ok (.ireturn, 1) := by decide +kernel
theorem dX5_blank_0 : decode cX5_blank 0 = .ok (.aload_n 0, 1) := by decide +kernel
theorem dX5_blank_1 : decode cX5_blank 1 = .ok (.getfield 88, 3) := by decide +kernel
theorem dX5_blank_4 : decode cX5_blank 4 = .ok (.istore_n 1, 1) := by decide +kernel
theorem dX5_blank_5 : decode cX5_blank 5 = .ok (.aload_n 0, 1) := by decide +kernel
theorem dX5_blank_6 : decode cX5_blank 6 = .ok (.iconst 0, 1) := by decide +kernel
theorem dX5_blank_7 : decode cX5_blank 7 = .ok (.putfield 88, 3) := by decide +kernel
theorem dX5_blank_10 : decode cX5_blank 10 = .ok (.iload_n 1, 1) := by decide +kernel
theorem dX5_blank_11 : decode cX5_blank 11 = .ok (.ireturn, 1) := by decide +kernel
theorem dX5_isRight_0 : decode cX5_isRight 0 = .ok (.aload_n 0, 1) := by decide +kernel
theorem dX5_isRight_1 : decode cX5_isRight 1 = .ok (.getfield 7, 3) := by decide +kernel
theorem dX5_isRight_4 : decode cX5_isRight 4 = .ok (.iload_n 1, 1) := by decide +kernel
theorem dX5_isRight_5 : decode cX5_isRight 5 = .ok (.iaload, 1) := by decide +kernel
theorem dX5_isRight_6 : decode cX5_isRight 6 = .ok (.istore_n 2, 1) := by decide +kernel
theorem dX5_isRight_7 : decode cX5_isRight 7 = .ok (.iload_n 1, 1) := by decide +kernel
theorem dX5_isRight_8 : decode cX5_isRight 8 = .ok (.iconst 3, 1) := by decide +kernel
theorem dX5_isRight_9 : decode cX5_isRight 9 = .ok (.irem, 1) := by decide +kernel
theorem dX5_isRight_10 : decode cX5_isRight 10 = .ok (.ifCond .ne 14, 3) := by decide +kernel
theorem dX5_isRight_13 : decode cX5_isRight 13 = .ok (.iload_n 2, 1) := by decide +kernel
theorem dX5_isRight_14 : decode cX5_isRight 14 = .ok (.bipush 48, 2) := by decide +kernel
theorem dX5_isRight_16 : decode cX5_isRight 16 = .ok (.bipush 51, 2) := by decide +kernel
theorem dX5_isRight_18 : decode cX5_isRight 18 = .ok (.invokestatic 84, 3) := by decide +kernel
theorem dX5_isRight_21 : decode cX5_isRight 21 = .ok (.goto 32, 3) := by decide +kernel
theorem dX5_isRight_24 : decode cX5_isRight 24 = .ok (.iload_n 1, 1) := by decide +kernel
theorem dX5_isRight_25 : decode cX5_isRight 25 = .ok (.iconst 3, 1) := by decide +kernel
theorem dX5_isRight_26 : decode cX5_isRight 26 = .ok (.irem, 1) := by decide +kernel
theorem dX5_isRight_27 : decode cX5_isRight 27 = .ok (.iconst 1, 1) := by decide +kernel
theorem dX5_isRight_28 : decode cX5_isRight 28 = .ok (.if_icmp .ne 14, 3) := by decide +kernel
theorem dX5_isRight_31 : decode cX5_isRight 31 = .ok (.iload_n 2, 1) := by decide +kernel
theorem dX5_isRight_32 : decode cX5_isRight 32 = .ok (.bipush 48, 2) := by decide +kernel
theorem dX5_isRight_34 : decode cX5_isRight 34 = .ok (.bipush 57, 2) := by decide +kernel
theorem dX5_isRight_36 : decode cX5_isRight 36 = .ok (.invokestatic 84, 3) := by decide +kernel
theorem dX5_isRight_39 : decode cX5_isRight 39 = .ok (.goto 14, 3) := by decide +kernel
theorem dX5_isRight_42 : decode cX5_isRight 42 = .ok (.iload_n 2, 1) := by decide +kernel
theorem dX5_isRight_43 : decode cX5_isRight 43 = .ok (.bipush 44, 2) := by decide +kernel
theorem dX5_isRight_45 : decode cX5_isRight 45 = .ok (.if_icmp .ne 7, 3) := by decide +kernel
theorem dX5_isRight_48 : decode cX5_isRight 48 = .ok (.iconst 1, 1) := by decide +kernel
theorem dX5_isRight_49 : decode cX5_isRight 49 = .ok (.goto 4, 3) := by decide +kernel
theorem dX5_isRight_52 : decode cX5_isRight 52 = .ok (.iconst 0, 1) := by decide +kernel
theorem dX5_isRight_53 : decode cX5_isRight 53 = .ok (.ireturn, 1) := by decide +kernel
theorem dX5_rightLetters_0 : decode cX5_rightLetters 0 = .ok (.iconst 0, 1) := by decide +kernel
theorem dX5_rightLetters_1 : decode cX5_rightLetters 1 = .ok (.istore_n 1, 1) := by decide +kernel
theorem dX5_rightLetters_2 : decode cX5_rightLetters 2 = .ok (.iload_n 1, 1) := by decide +kernel
theorem dX5_rightLetters_3 : decode cX5_rightLetters 3 = .ok (.aload_n 0, 1) := by decide +kernel
theorem dX5_rightLetters_4 : decode cX5_rightLetters 4 = .ok (.getfield 88, 3) := by decide +kernel
theorem dX5_rightLetters_7 : decode cX5_rightLetters 7 = .ok (.if_icmp .ge 17, 3) := by decide +kernel
theorem dX5_rightLetters_10 : decode cX5_rightLetters 10 = .ok (.aload_n 0, 1) := by decide +kernel
theorem dX5_rightLetters_11 : decode cX5_rightLetters 11 = .ok (.iload_n 1, 1) := by decide +kernel
theorem dX5_rightLetters_12 : decode cX5_rightLetters 12 = .ok (.invokevirtual 91, 3) := by decide +kernel
theorem dX5_rightLetters_15 : decode cX5_rightLetters 15 = .ok (.ifCond .eq 9, 3) := by decide +kernel
theorem dX5_rightLetters_18 : decode cX5_rightLetters 18 = .ok (.iinc 1 1, 3) := by decide +kernel
theorem dX5_rightLetters_21 : decode cX5_rightLetters 21 = .ok (.goto (-19), 3) := by decide +kernel
theorem dX5_rightLetters_24 : decode cX5_rightLetters 24 = .ok (.iload_n 1, 1) := by decide +kernel
theorem dX5_rightLetters_25 : decode cX5_rightLetters 25 = .ok (.ireturn, 1) := by decide +kernel
theorem dX5_fault_0 : decode cX5_fault 0 = .ok (.aload_n 0, 1) := by decide +kernel
theorem dX5_fault_1 : decode cX5_fault 1 = .ok (.invokevirtual 95, 3) := by decide +kernel
theorem dX5_fault_4 : decode cX5_fault 4 = .ok (.ireturn, 1) := by decide +kernel
theorem dX5_clearFlows_0 : decode cX5_clearFlows 0 = .ok (.iconst 0, 1) := by decide +kernel
theorem dX5_clearFlows_1 : decode cX5_clearFlows 1 = .ok (.istore_n 1, 1) := by decide +kernel
theorem dX5_clearFlows_2 : decode cX5_clearFlows 2 = .ok (.iload_n 1, 1) := by decide +kernel
theorem dX5_clearFlows_3 : decode cX5_clearFlows 3 = .ok (.bipush 12, 2) := by decide +kernel
theorem dX5_clearFlows_5 : decode cX5_clearFlows 5 = .ok (.if_icmp .ge 58, 3) := by decide +kernel
theorem dX5_clearFlows_8 : decode cX5_clearFlows 8 = .ok (.aload_n 0, 1) := by decide +kernel
theorem dX5_clearFlows_9 : decode cX5_clearFlows 9 = .ok (.getfield 54, 3) := by decide +kernel
theorem dX5_clearFlows_12 : decode cX5_clearFlows 12 = .ok (.iload_n 1, 1) := by decide +kernel
theorem dX5_clearFlows_13 : decode cX5_clearFlows 13 = .ok (.iconst (-1), 1) := by decide +kernel
theorem dX5_clearFlows_14 : decode cX5_clearFlows 14 = .ok (.iastore, 1) := by decide +kernel
theorem dX5_clearFlows_15 : decode cX5_clearFlows 15 = .ok (.aload_n 0, 1) := by decide +kernel
theorem dX5_clearFlows_16 : decode cX5_clearFlows 16 = .ok (.getfield 57, 3) := by decide +kernel
theorem dX5_clearFlows_19 : decode cX5_clearFlows 19 = .ok (.iload_n 1, 1) := by decide +kernel
theorem dX5_clearFlows_20 : decode cX5_clearFlows 20 = .ok (.iconst 0, 1) := by decide +kernel
theorem dX5_clearFlows_21 : decode cX5_clearFlows 21 = .ok (.bastore, 1) := by decide +kernel
theorem dX5_clearFlows_22 : decode cX5_clearFlows 22 = .ok (.aload_n 0, 1) := by decide +kernel
theorem dX5_clearFlows_23 : decode cX5_clearFlows 23 = .ok (.getfield 60, 3) := by decide +kernel
theorem dX5_clearFlows_26 : decode cX5_clearFlows 26 = .ok (.iload_n 1, 1) := by decide +kernel
theorem dX5_clearFlows_27 : decode cX5_clearFlows 27 = .ok (.iconst 0, 1) := by decide +kernel
theorem dX5_clearFlows_28 : decode cX5_clearFlows 28 = .ok (.iastore, 1) := by decide +kernel
theorem dX5_clearFlows_29 : decode cX5_clearFlows 29 = .ok (.aload_n 0, 1) := by decide +kernel
theorem dX5_clearFlows_30 : decode cX5_clearFlows 30 = .ok (.getfield 66, 3) := by decide +kernel
theorem dX5_clearFlows_33 : decode cX5_clearFlows 33 = .ok (.iload_n 1, 1) := by decide +kernel
theorem dX5_clearFlows_34 : decode cX5_clearFlows 34 = .ok (.iconst 0, 1) := by decide +kernel
theorem dX5_clearFlows_35 : decode cX5_clearFlows 35 = .ok (.iastore, 1) := by decide +kernel
theorem dX5_clearFlows_36 : decode cX5_clearFlows 36 = .ok (.aload_n 0, 1) := by decide +kernel
theorem dX5_clearFlows_37 : decode cX5_clearFlows 37 = .ok (.getfield 69, 3) := by decide +kernel
theorem dX5_clearFlows_40 : decode cX5_clearFlows 40 = .ok (.iload_n 1, 1) := by decide +kernel
theorem dX5_clearFlows_41 : decode cX5_clearFlows 41 = .ok (.iconst 0, 1) := by decide +kernel
theorem dX5_clearFlows_42 : decode cX5_clearFlows 42 = .ok (.iastore, 1) := by decide +kernel
theorem dX5_clearFlows_43 : decode cX5_clearFlows 43 = .ok (.aload_n 0, 1) := by decide +kernel
theorem dX5_clearFlows_44 : decode cX5_clearFlows 44 = .ok (.getfield 72, 3) := by decide +kernel
theorem dX5_clearFlows_47 : decode cX5_clearFlows 47 = .ok (.iload_n 1, 1) := by decide +kernel
theorem dX5_clearFlows_48 : decode cX5_clearFlows 48 = .ok (.iconst 0, 1) := by decide +kernel
theorem dX5_clearFlows_49 : decode cX5_clearFlows 49 = .ok (.iastore, 1) := by decide +kernel
theorem dX5_clearFlows_50 : decode cX5_clearFlows 50 = .ok (.aload_n 0, 1) := by decide +kernel
theorem dX5_clearFlows_51 : decode cX5_clearFlows 51 = .ok (.getfield 75, 3) := by decide +kernel
theorem dX5_clearFlows_54 : decode cX5_clearFlows 54 = .ok (.iload_n 1, 1) := by decide +kernel
theorem dX5_clearFlows_55 : decode cX5_clearFlows 55 = .ok (.iconst 0, 1) := by decide +kernel
theorem dX5_clearFlows_56 : decode cX5_clearFlows 56 = .ok (.iastore, 1) := by decide +kernel
theorem dX5_clearFlows_57 : decode cX5_clearFlows 57 = .ok (.iinc 1 1, 3) := by decide +kernel
theorem dX5_clearFlows_60 : decode cX5_clearFlows 60 = .ok (.goto (-58), 3) := by decide +kernel
theorem dX5_clearFlows_63 : decode cX5_clearFlows 63 = .ok (.aload_n 0, 1) := by decide +kernel
theorem dX5_clearFlows_64 : decode cX5_clearFlows 64 = .ok (.iconst 0, 1) := by decide +kernel
theorem dX5_clearFlows_65 : decode cX5_clearFlows 65 = .ok (.putfield 99, 3) := by decide +kernel
theorem dX5_clearFlows_68 : decode cX5_clearFlows 68 = .ok (.aload_n 0, 1) := by decide +kernel
theorem dX5_clearFlows_69 : decode cX5_clearFlows 69 = .ok (.iconst 0, 1) := by decide +kernel
theorem dX5_clearFlows_70 : decode cX5_clearFlows 70 = .ok (.putfield 102, 3) := by decide +kernel
theorem dX5_clearFlows_73 : decode cX5_clearFlows 73 = .ok (.return_, 1) := by decide +kernel
theorem dX5_board_0 : decode cX5_board 0 = .ok (.aload_n 0, 1) := by decide +kernel
theorem dX5_board_1 : decode cX5_board 1 = .ok (.getfield 88, 3) := by decide +kernel
theorem dX5_board_4 : decode cX5_board 4 = .ok (.iconst 3, 1) := by decide +kernel
theorem dX5_board_5 : decode cX5_board 5 = .ok (.irem, 1) := by decide +kernel
theorem dX5_board_6 : decode cX5_board 6 = .ok (.iconst 2, 1) := by decide +kernel
theorem dX5_board_7 : decode cX5_board 7 = .ok (.if_icmp .ne 14, 3) := by decide +kernel
theorem dX5_board_10 : decode cX5_board 10 = .ok (.aload_n 0, 1) := by decide +kernel
theorem dX5_board_11 : decode cX5_board 11 = .ok (.invokevirtual 95, 3) := by decide +kernel
theorem dX5_board_14 : decode cX5_board 14 = .ok (.aload_n 0, 1) := by decide +kernel
theorem dX5_board_15 : decode cX5_board 15 = .ok (.getfield 88, 3) := by decide +kernel
theorem dX5_board_18 : decode cX5_board 18 = .ok (.if_icmp .ge 7, 3) := by decide +kernel
theorem dX5_board_21 : decode cX5_board 21 = .ok (.sipush (-1003), 3) := by decide +kernel
theorem dX5_board_24 : decode cX5_board 24 = .ok (.ireturn, 1) := by decide +kernel
theorem dX5_board_25 : decode cX5_board 25 = .ok (.aload_n 0, 1) := by decide +kernel
theorem dX5_board_26 : decode cX5_board 26 = .ok (.aload_n 0, 1) := by decide +kernel
theorem dX5_board_27 : decode cX5_board 27 = .ok (.getfield 88, 3) := by decide +kernel
theorem dX5_board_30 : decode cX5_board 30 = .ok (.iconst 1, 1) := by decide +kernel
theorem dX5_board_31 : decode cX5_board 31 = .ok (.iadd, 1) := by decide +kernel
theorem dX5_board_32 : decode cX5_board 32 = .ok (.iconst 3, 1) := by decide +kernel
theorem dX5_board_33 : decode cX5_board 33 = .ok (.idiv, 1) := by decide +kernel
theorem dX5_board_34 : decode cX5_board 34 = .ok (.putfield 105, 3) := by decide +kernel
theorem dX5_board_37 : decode cX5_board 37 = .ok (.iconst 0, 1) := by decide +kernel
theorem dX5_board_38 : decode cX5_board 38 = .ok (.istore_n 1, 1) := by decide +kernel
theorem dX5_board_39 : decode cX5_board 39 = .ok (.iload_n 1, 1) := by decide +kernel
theorem dX5_board_40 : decode cX5_board 40 = .ok (.bipush 6, 2) := by decide +kernel
theorem dX5_board_42 : decode cX5_board 42 = .ok (.if_icmp .ge 95, 3) := by decide +kernel
theorem dX5_board_45 : decode cX5_board 45 = .ok (.aload_n 0, 1) := by decide +kernel
theorem dX5_board_46 : decode cX5_board 46 = .ok (.getfield 13, 3) := by decide +kernel
theorem dX5_board_49 : decode cX5_board 49 = .ok (.iload_n 1, 1) := by decide +kernel
theorem dX5_board_50 : decode cX5_board 50 = .ok (.iload_n 1, 1) := by decide +kernel
theorem dX5_board_51 : decode cX5_board 51 = .ok (.aload_n 0, 1) := by decide +kernel
theorem dX5_board_52 : decode cX5_board 52 = .ok (.getfield 105, 3) := by decide +kernel
theorem dX5_board_55 : decode cX5_board 55 = .ok (.if_icmp .ge 17, 3) := by decide +kernel
theorem dX5_board_58 : decode cX5_board 58 = .ok (.aload_n 0, 1) := by decide +kernel
theorem dX5_board_59 : decode cX5_board 59 = .ok (.getfield 7, 3) := by decide +kernel
theorem dX5_board_62 : decode cX5_board 62 = .ok (.iconst 3, 1) := by decide +kernel
theorem dX5_board_63 : decode cX5_board 63 = .ok (.iload_n 1, 1) := by decide +kernel
theorem dX5_board_64 : decode cX5_board 64 = .ok (.imul, 1) := by decide +kernel
theorem dX5_board_65 : decode cX5_board 65 = .ok (.iaload, 1) := by decide +kernel
theorem dX5_board_66 : decode cX5_board 66 = .ok (.bipush 48, 2) := by decide +kernel
theorem dX5_board_68 : decode cX5_board 68 = .ok (.isub, 1) := by decide +kernel
theorem dX5_board_69 : decode cX5_board 69 = .ok (.goto 4, 3) := by decide +kernel
theorem dX5_board_72 : decode cX5_board 72 = .ok (.iconst 0, 1) := by decide +kernel
theorem dX5_board_73 : decode cX5_board 73 = .ok (.iastore, 1) := by decide +kernel
theorem dX5_board_74 : decode cX5_board 74 = .ok (.aload_n 0, 1) := by decide +kernel
theorem dX5_board_75 : decode cX5_board 75 = .ok (.getfield 16, 3) := by decide +kernel
theorem dX5_board_78 : decode cX5_board 78 = .ok (.iload_n 1, 1) := by decide +kernel
theorem dX5_board_79 : decode cX5_board 79 = .ok (.iload_n 1, 1) := by decide +kernel
theorem dX5_board_80 : decode cX5_board 80 = .ok (.aload_n 0, 1) := by decide +kernel
theorem dX5_board_81 : decode cX5_board 81 = .ok (.getfield 105, 3) := by decide +kernel
theorem dX5_board_84 : decode cX5_board 84 = .ok (.if_icmp .ge 19, 3) := by decide +kernel
theorem dX5_board_87 : decode cX5_board 87 = .ok (.aload_n 0, 1) := by decide +kernel
theorem dX5_board_88 : decode cX5_board 88 = .ok (.getfield 7, 3) := by decide +kernel
theorem dX5_board_91 : decode cX5_board 91 = .ok (.iconst 3, 1) := by decide +kernel
theorem dX5_board_92 : decode cX5_board 92 = .ok (.iload_n 1, 1) := by decide +kernel
theorem dX5_board_93 : decode cX5_board 93 = .ok (.imul, 1) := by decide +kernel
theorem dX5_board_94 : decode cX5_board 94 = .ok (.iconst 1, 1) := by decide +kernel
theorem dX5_board_95 : decode cX5_board 95 = .ok (.iadd, 1) := by decide +kernel
theorem dX5_board_96 : decode cX5_board 96 = .ok (.iaload, 1) := by decide +kernel
theorem dX5_board_97 : decode cX5_board 97 = .ok (.bipush 48, 2) := by decide +kernel
theorem dX5_board_99 : decode cX5_board 99 = .ok (.isub, 1) := by decide +kernel
theorem dX5_board_100 : decode cX5_board 100 = .ok (.goto 4, 3) := by decide +kernel
theorem dX5_board_103 : decode cX5_board 103 = .ok (.iconst 0, 1) := by decide +kernel
theorem dX5_board_104 : decode cX5_board 104 = .ok (.iastore, 1) := by decide +kernel
theorem dX5_board_105 : decode cX5_board 105 = .ok (.aload_n 0, 1) := by decide +kernel
theorem dX5_board_106 : decode cX5_board 106 = .ok (.getfield 19, 3) := by decide +kernel
theorem dX5_board_109 : decode cX5_board 109 = .ok (.iload_n 1, 1) := by decide +kernel
theorem dX5_board_110 : decode cX5_board 110 = .ok (.iconst 0, 1) := by decide +kernel
theorem dX5_board_111 : decode cX5_board 111 = .ok (.bastore, 1) := by decide +kernel
theorem dX5_board_112 : decode cX5_board 112 = .ok (.aload_n 0, 1) := by decide +kernel
theorem dX5_board_113 : decode cX5_board 113 = .ok (.getfield 51, 3) := by decide +kernel
theorem dX5_board_116 : decode cX5_board 116 = .ok (.iload_n 1, 1) := by decide +kernel
theorem dX5_board_117 : decode cX5_board 117 = .ok (.iconst 0, 1) := by decide +kernel
theorem dX5_board_118 : decode cX5_board 118 = .ok (.iastore, 1) := by decide +kernel
theorem dX5_board_119 : decode cX5_board 119 = .ok (.aload_n 0, 1) := by decide +kernel
theorem dX5_board_120 : decode cX5_board 120 = .ok (.iload_n 1, 1) := by decide +kernel
theorem dX5_board_121 : decode cX5_board 121 = .ok (.invokevirtual 108, 3) := by decide +kernel
theorem dX5_board_124 : decode cX5_board 124 = .ok (.aload_n 0, 1) := by decide +kernel
theorem dX5_board_125 : decode cX5_board 125 = .ok (.getfield 35, 3) := by decide +kernel
theorem dX5_board_128 : decode cX5_board 128 = .ok (.iload_n 1, 1) := by decide +kernel
theorem dX5_board_129 : decode cX5_board 129 = .ok (.iconst 0, 1) := by decide +kernel
theorem dX5_board_130 : decode cX5_board 130 = .ok (.iastore, 1) := by decide +kernel
theorem dX5_board_131 : decode cX5_board 131 = .ok (.iinc 1 1, 3) := by decide +kernel
theorem dX5_board_134 : decode cX5_board 134 = .ok (.goto (-95), 3) := by decide +kernel
theorem dX5_board_137 : decode cX5_board 137 = .ok (.aload_n 0, 1) := by decide +kernel
theorem dX5_board_138 : decode cX5_board 138 = .ok (.invokevirtual 81, 3) := by decide +kernel
theorem dX5_board_141 : decode cX5_board 141 = .ok (.aload_n 0, 1) := by decide +kernel
theorem dX5_board_142 : decode cX5_board 142 = .ok (.dup, 1) := by decide +kernel
theorem dX5_board_143 : decode cX5_board 143 = .ok (.getfield 112, 3) := by decide +kernel
theorem dX5_board_146 : decode cX5_board 146 = .ok (.iconst 1, 1) := by decide +kernel
theorem dX5_board_147 : decode cX5_board 147 = .ok (.iadd, 1) := by decide +kernel
theorem dX5_board_148 : decode cX5_board 148 = .ok (.putfield 112, 3) := by decide +kernel
theorem dX5_board_151 : decode cX5_board 151 = .ok (.aload_n 0, 1) := by decide +kernel
theorem dX5_board_152 : decode cX5_board 152 = .ok (.iconst 0, 1) := by decide +kernel
theorem dX5_board_153 : decode cX5_board 153 = .ok (.putfield 88, 3) := by decide +kernel
theorem dX5_board_156 : decode cX5_board 156 = .ok (.aload_n 0, 1) := by decide +kernel
theorem dX5_board_157 : decode cX5_board 157 = .ok (.getfield 105, 3) := by decide +kernel
theorem dX5_board_160 : decode cX5_board 160 = .ok (.ireturn, 1) := by decide +kernel
theorem dX5_isPort_0 : decode cX5_isPort 0 = .ok (.iload_n 1, 1) := by decide +kernel
theorem dX5_isPort_1 : decode cX5_isPort 1 = .ok (.iconst 0, 1) := by decide +kernel
theorem dX5_isPort_2 : decode cX5_isPort 2 = .ok (.aload_n 0, 1) := by decide +kernel
theorem dX5_isPort_3 : decode cX5_isPort 3 = .ok (.getfield 105, 3) := by decide +kernel
theorem dX5_isPort_6 : decode cX5_isPort 6 = .ok (.iconst 1, 1) := by decide +kernel
theorem dX5_isPort_7 : decode cX5_isPort 7 = .ok (.isub, 1) := by decide +kernel
theorem dX5_isPort_8 : decode cX5_isPort 8 = .ok (.invokestatic 84, 3) := by decide +kernel
theorem dX5_isPort_11 : decode cX5_isPort 11 = .ok (.ireturn, 1) := by decide +kernel
theorem dX5_forget_0 : decode cX5_forget 0 = .ok (.aload_n 0, 1) := by decide +kernel
theorem dX5_forget_1 : decode cX5_forget 1 = .ok (.getfield 23, 3) := by decide +kernel
theorem dX5_forget_4 : decode cX5_forget 4 = .ok (.iload_n 1, 1) := by decide +kernel
theorem dX5_forget_5 : decode cX5_forget 5 = .ok (.iconst 0, 1) := by decide +kernel
theorem dX5_forget_6 : decode cX5_forget 6 = .ok (.iastore, 1) := by decide +kernel
theorem dX5_forget_7 : decode cX5_forget 7 = .ok (.aload_n 0, 1) := by decide +kernel
theorem dX5_forget_8 : decode cX5_forget 8 = .ok (.getfield 26, 3) := by decide +kernel
theorem dX5_forget_11 : decode cX5_forget 11 = .ok (.iload_n 1, 1) := by decide +kernel
theorem dX5_forget_12 : decode cX5_forget 12 = .ok (.iconst 0, 1) := by decide +kernel
theorem dX5_forget_13 : decode cX5_forget 13 = .ok (.iastore, 1) := by decide +kernel
theorem dX5_forget_14 : decode cX5_forget 14 = .ok (.aload_n 0, 1) := by decide +kernel
theorem dX5_forget_15 : decode cX5_forget 15 = .ok (.getfield 29, 3) := by decide +kernel
theorem dX5_forget_18 : decode cX5_forget 18 = .ok (.iload_n 1, 1) := by decide +kernel
theorem dX5_forget_19 : decode cX5_forget 19 = .ok (.iconst 0, 1) := by decide +kernel
theorem dX5_forget_20 : decode cX5_forget 20 = .ok (.bastore, 1) := by decide +kernel
theorem dX5_forget_21 : decode cX5_forget 21 = .ok (.aload_n 0, 1) := by decide +kernel
theorem dX5_forget_22 : decode cX5_forget 22 = .ok (.getfield 32, 3) := by decide +kernel
theorem dX5_forget_25 : decode cX5_forget 25 = .ok (.iload_n 1, 1) := by decide +kernel
theorem dX5_forget_26 : decode cX5_forget 26 = .ok (.iconst 0, 1) := by decide +kernel
theorem dX5_forget_27 : decode cX5_forget 27 = .ok (.iastore, 1) := by decide +kernel
theorem dX5_forget_28 : decode cX5_forget 28 = .ok (.return_, 1) := by decide +kernel
theorem dX5_isAhead_0 : decode cX5_isAhead 0 = .ok (.aload_n 0, 1) := by decide +kernel
theorem dX5_isAhead_1 : decode cX5_isAhead 1 = .ok (.getfield 16, 3) := by decide +kernel
theorem dX5_isAhead_4 : decode cX5_isAhead 4 = .ok (.iload_n 1, 1) := by decide +kernel
theorem dX5_isAhead_5 : decode cX5_isAhead 5 = .ok (.iaload, 1) := by decide +kernel
theorem dX5_isAhead_6 : decode cX5_isAhead 6 = .ok (.aload_n 0, 1) := by decide +kernel
theorem dX5_isAhead_7 : decode cX5_isAhead 7 = .ok (.getfield 16, 3) := by decide +kernel
theorem dX5_isAhead_10 : decode cX5_isAhead 10 = .ok (.iload_n 2, 1) := by decide +kernel
theorem dX5_isAhead_11 : decode cX5_isAhead 11 = .ok (.iaload, 1) := by decide +kernel
theorem dX5_isAhead_12 : decode cX5_isAhead 12 = .ok (.if_icmp .lt 23, 3) := by decide +kernel
theorem dX5_isAhead_15 : decode cX5_isAhead 15 = .ok (.aload_n 0, 1) := by decide +kernel
theorem dX5_isAhead_16 : decode cX5_isAhead 16 = .ok (.getfield 16, 3) := by decide +kernel
theorem dX5_isAhead_19 : decode cX5_isAhead 19 = .ok (.iload_n 1, 1) := by decide +kernel
theorem dX5_isAhead_20 : decode cX5_isAhead 20 = .ok (.iaload, 1) := by decide +kernel
theorem dX5_isAhead_21 : decode cX5_isAhead 21 = .ok (.aload_n 0, 1) := by decide +kernel
theorem dX5_isAhead_22 : decode cX5_isAhead 22 = .ok (.getfield 16, 3) := by decide +kernel
theorem dX5_isAhead_25 : decode cX5_isAhead 25 = .ok (.iload_n 2, 1) := by decide +kernel
theorem dX5_isAhead_26 : decode cX5_isAhead 26 = .ok (.iaload, 1) := by decide +kernel
theorem dX5_isAhead_27 : decode cX5_isAhead 27 = .ok (.if_icmp .ne 12, 3) := by decide +kernel
theorem dX5_isAhead_30 : decode cX5_isAhead 30 = .ok (.iload_n 1, 1) := by decide +kernel
theorem dX5_isAhead_31 : decode cX5_isAhead 31 = .ok (.iload_n 2, 1) := by decide +kernel
theorem dX5_isAhead_32 : decode cX5_isAhead 32 = .ok (.if_icmp .ge 7, 3) := by decide +kernel
theorem dX5_isAhead_35 : decode cX5_isAhead 35 = .ok (.iconst 1, 1) := by decide +kernel
theorem dX5_isAhead_36 : decode cX5_isAhead 36 = .ok (.goto 4, 3) := by decide +kernel
theorem dX5_isAhead_39 : decode cX5_isAhead 39 = .ok (.iconst 0, 1) := by decide +kernel
theorem dX5_isAhead_40 : decode cX5_isAhead 40 = .ok (.ireturn, 1) := by decide +kernel
theorem dX5_leadOf_0 : decode cX5_leadOf 0 = .ok (.iconst (-1), 1) := by decide +kernel
theorem dX5_leadOf_1 : decode cX5_leadOf 1 = .ok (.istore_n 2, 1) := by decide +kernel
theorem dX5_leadOf_2 : decode cX5_leadOf 2 = .ok (.iconst 0, 1) := by decide +kernel
theorem dX5_leadOf_3 : decode cX5_leadOf 3 = .ok (.istore_n 3, 1) := by decide +kernel
theorem dX5_leadOf_4 : decode cX5_leadOf 4 = .ok (.iload_n 3, 1) := by decide +kernel
theorem dX5_leadOf_5 : decode cX5_leadOf 5 = .ok (.aload_n 0, 1) := by decide +kernel
theorem dX5_leadOf_6 : decode cX5_leadOf 6 = .ok (.getfield 105, 3) := by decide +kernel
theorem dX5_leadOf_9 : decode cX5_leadOf 9 = .ok (.if_icmp .ge 60, 3) := by decide +kernel
theorem dX5_leadOf_12 : decode cX5_leadOf 12 = .ok (.aload_n 0, 1) := by decide +kernel
theorem dX5_leadOf_13 : decode cX5_leadOf 13 = .ok (.getfield 13, 3) := by decide +kernel
theorem dX5_leadOf_16 : decode cX5_leadOf 16 = .ok (.iload_n 3, 1) := by decide +kernel
theorem dX5_leadOf_17 : decode cX5_leadOf 17 = .ok (.iaload, 1) := by decide +kernel
theorem dX5_leadOf_18 : decode cX5_leadOf 18 = .ok (.iload_n 1, 1) := by decide +kernel
theorem dX5_leadOf_19 : decode cX5_leadOf 19 = .ok (.if_icmp .ne 16, 3) := by decide +kernel
theorem dX5_leadOf_22 : decode cX5_leadOf 22 = .ok (.aload_n 0, 1) := by decide +kernel
theorem dX5_leadOf_23 : decode cX5_leadOf 23 = .ok (.getfield 23, 3) := by decide +kernel
theorem dX5_leadOf_26 : decode cX5_leadOf 26 = .ok (.iload_n 3, 1) := by decide +kernel
theorem dX5_leadOf_27 : decode cX5_leadOf 27 = .ok (.iaload, 1) := by decide +kernel
theorem dX5_leadOf_28 : decode cX5_leadOf 28 = .ok (.ifCond .le 7, 3) := by decide +kernel
theorem dX5_leadOf_31 : decode cX5_leadOf 31 = .ok (.iconst 1, 1) := by decide +kernel
theorem dX5_leadOf_32 : decode cX5_leadOf 32 = .ok (.goto 4, 3) := by decide +kernel
theorem dX5_leadOf_35 : decode cX5_leadOf 35 = .ok (.iconst 0, 1) := by decide +kernel
theorem dX5_leadOf_36 : decode cX5_leadOf 36 = .ok (.istore 4, 2) := by decide +kernel
theorem dX5_leadOf_38 : decode cX5_leadOf 38 = .ok (.iload 4, 2) := by decide +kernel
theorem dX5_leadOf_40 : decode cX5_leadOf 40 = .ok (.ifCond .eq 21, 3) := by decide +kernel
theorem dX5_leadOf_43 : decode cX5_leadOf 43 = .ok (.iload_n 2, 1) := by decide +kernel
theorem dX5_leadOf_44 : decode cX5_leadOf 44 = .ok (.iconst (-1), 1) := by decide +kernel
theorem dX5_leadOf_45 : decode cX5_leadOf 45 = .ok (.if_icmp .eq 12, 3) := by decide +kernel
theorem dX5_leadOf_48 : decode cX5_leadOf 48 = .ok (.aload_n 0, 1) := by decide +kernel
theorem dX5_leadOf_49 : decode cX5_leadOf 49 = .ok (.iload_n 3, 1) := by decide +kernel
theorem dX5_leadOf_50 : decode cX5_leadOf 50 = .ok (.iload_n 2, 1) := by decide +kernel
theorem dX5_leadOf_51 : decode cX5_leadOf 51 = .ok (.invokevirtual 115, 3) := by decide +kernel
theorem dX5_leadOf_54 : decode cX5_leadOf 54 = .ok (.ifCond .eq 7, 3) := by decide +kernel
theorem dX5_leadOf_57 : decode cX5_leadOf 57 = .ok (.iload_n 3, 1) := by decide +kernel
theorem dX5_leadOf_58 : decode cX5_leadOf 58 = .ok (.goto 4, 3) := by decide +kernel
theorem dX5_leadOf_61 : decode cX5_leadOf 61 = .ok (.iload_n 2, 1) := by decide +kernel
theorem dX5_leadOf_62 : decode cX5_leadOf 62 = .ok (.istore_n 2, 1) := by decide +kernel
theorem dX5_leadOf_63 : decode cX5_leadOf 63 = .ok (.iinc 3 1, 3) := by decide +kernel
theorem dX5_leadOf_66 : decode cX5_leadOf 66 = .ok (.goto (-62), 3) := by decide +kernel
theorem dX5_leadOf_69 : decode cX5_leadOf 69 = .ok (.iload_n 2, 1) := by decide +kernel
theorem dX5_leadOf_70 : decode cX5_leadOf 70 = .ok (.ireturn, 1) := by decide +kernel
theorem dX5_areAlike_0 : decode cX5_areAlike 0 = .ok (.aload_n 0, 1) := by decide +kernel
theorem dX5_areAlike_1 : decode cX5_areAlike 1 = .ok (.getfield 23, 3) := by decide +kernel
theorem dX5_areAlike_4 : decode cX5_areAlike 4 = .ok (.iload_n 1, 1) := by decide +kernel
theorem dX5_areAlike_5 : decode cX5_areAlike 5 = .ok (.iaload, 1) := by decide +kernel
theorem dX5_areAlike_6 : decode cX5_areAlike 6 = .ok (.ifCond .le 52, 3) := by decide +kernel
theorem dX5_areAlike_9 : decode cX5_areAlike 9 = .ok (.aload_n 0, 1) := by decide +kernel
theorem dX5_areAlike_10 : decode cX5_areAlike 10 = .ok (.getfield 13, 3) := by decide +kernel
theorem dX5_areAlike_13 : decode cX5_areAlike 13 = .ok (.iload_n 1, 1) := by decide +kernel
theorem dX5_areAlike_14 : decode cX5_areAlike 14 = .ok (.iaload, 1) := by decide +kernel
theorem dX5_areAlike_15 : decode cX5_areAlike 15 = .ok (.aload_n 0, 1) := by decide +kernel
theorem dX5_areAlike_16 : decode cX5_areAlike 16 = .ok (.getfield 13, 3) := by decide +kernel
theorem dX5_areAlike_19 : decode cX5_areAlike 19 = .ok (.iload_n 2, 1) := by decide +kernel
theorem dX5_areAlike_20 : decode cX5_areAlike 20 = .ok (.iaload, 1) := by decide +kernel
theorem dX5_areAlike_21 : decode cX5_areAlike 21 = .ok (.if_icmp .ne 37, 3) := by decide +kernel
theorem dX5_areAlike_24 : decode cX5_areAlike 24 = .ok (.aload_n 0, 1) := by decide +kernel
theorem dX5_areAlike_25 : decode cX5_areAlike 25 = .ok (.getfield 23, 3) := by decide +kernel
theorem dX5_areAlike_28 : decode cX5_areAlike 28 = .ok (.iload_n 1, 1) := by decide +kernel
theorem dX5_areAlike_29 : decode cX5_areAlike 29 = .ok (.iaload, 1) := by decide +kernel
theorem dX5_areAlike_30 : decode cX5_areAlike 30 = .ok (.aload_n 0, 1) := by decide +kernel
theorem dX5_areAlike_31 : decode cX5_areAlike 31 = .ok (.getfield 23, 3) := by decide +kernel
theorem dX5_areAlike_34 : decode cX5_areAlike 34 = .ok (.iload_n 2, 1) := by decide +kernel
theorem dX5_areAlike_35 : decode cX5_areAlike 35 = .ok (.iaload, 1) := by decide +kernel
theorem dX5_areAlike_36 : decode cX5_areAlike 36 = .ok (.if_icmp .ne 22, 3) := by decide +kernel
theorem dX5_areAlike_39 : decode cX5_areAlike 39 = .ok (.aload_n 0, 1) := by decide +kernel
theorem dX5_areAlike_40 : decode cX5_areAlike 40 = .ok (.getfield 26, 3) := by decide +kernel
theorem dX5_areAlike_43 : decode cX5_areAlike 43 = .ok (.iload_n 1, 1) := by decide +kernel
theorem dX5_areAlike_44 : decode cX5_areAlike 44 = .ok (.iaload, 1) := by decide +kernel
theorem dX5_areAlike_45 : decode cX5_areAlike 45 = .ok (.aload_n 0, 1) := by decide +kernel
theorem dX5_areAlike_46 : decode cX5_areAlike 46 = .ok (.getfield 26, 3) := by decide +kernel
theorem dX5_areAlike_49 : decode cX5_areAlike 49 = .ok (.iload_n 2, 1) := by decide +kernel
theorem dX5_areAlike_50 : decode cX5_areAlike 50 = .ok (.iaload, 1) := by decide +kernel
theorem dX5_areAlike_51 : decode cX5_areAlike 51 = .ok (.if_icmp .ne 7, 3) := by decide +kernel
theorem dX5_areAlike_54 : decode cX5_areAlike 54 = .ok (.iconst 1, 1) := by decide +kernel
theorem dX5_areAlike_55 : decode cX5_areAlike 55 = .ok (.goto 4, 3) := by decide +kernel
theorem dX5_areAlike_58 : decode cX5_areAlike 58 = .ok (.iconst 0, 1) := by decide +kernel
theorem dX5_areAlike_59 : decode cX5_areAlike 59 = .ok (.ireturn, 1) := by decide +kernel
theorem dX5_placeOf_0 : decode cX5_placeOf 0 = .ok (.aload_n 0, 1) := by decide +kernel
theorem dX5_placeOf_1 : decode cX5_placeOf 1 = .ok (.aload_n 0, 1) := by decide +kernel
theorem dX5_placeOf_2 : decode cX5_placeOf 2 = .ok (.getfield 13, 3) := by decide +kernel
theorem dX5_placeOf_5 : decode cX5_placeOf 5 = .ok (.iload_n 1, 1) := by decide +kernel
theorem dX5_placeOf_6 : decode cX5_placeOf 6 = .ok (.iaload, 1) := by decide +kernel
theorem dX5_placeOf_7 : decode cX5_placeOf 7 = .ok (.invokevirtual 119, 3) := by decide +kernel
theorem dX5_placeOf_10 : decode cX5_placeOf 10 = .ok (.istore_n 2, 1) := by decide +kernel
theorem dX5_placeOf_11 : decode cX5_placeOf 11 = .ok (.iload_n 2, 1) := by decide +kernel
theorem dX5_placeOf_12 : decode cX5_placeOf 12 = .ok (.iconst (-1), 1) := by decide +kernel
theorem dX5_placeOf_13 : decode cX5_placeOf 13 = .ok (.if_icmp .eq 12, 3) := by decide +kernel
theorem dX5_placeOf_16 : decode cX5_placeOf 16 = .ok (.aload_n 0, 1) := by decide +kernel
theorem dX5_placeOf_17 : decode cX5_placeOf 17 = .ok (.iload_n 1, 1) := by decide +kernel
theorem dX5_placeOf_18 : decode cX5_placeOf 18 = .ok (.iload_n 2, 1) := by decide +kernel
theorem dX5_placeOf_19 : decode cX5_placeOf 19 = .ok (.invokevirtual 123, 3) := by decide +kernel
theorem dX5_placeOf_22 : decode cX5_placeOf 22 = .ok (.ifCond .ne 5, 3) := by decide +kernel
theorem dX5_placeOf_25 : decode cX5_placeOf 25 = .ok (.iconst (-1), 1) := by decide +kernel
theorem dX5_placeOf_26 : decode cX5_placeOf 26 = .ok (.ireturn, 1) := by decide +kernel
theorem dX5_placeOf_27 : decode cX5_placeOf 27 = .ok (.iconst 0, 1) := by decide +kernel
theorem dX5_placeOf_28 : decode cX5_placeOf 28 = .ok (.istore_n 3, 1) := by decide +kernel
theorem dX5_placeOf_29 : decode cX5_placeOf 29 = .ok (.iconst 0, 1) := by decide +kernel
theorem dX5_placeOf_30 : decode cX5_placeOf 30 = .ok (.istore 4, 2) := by decide +kernel
theorem dX5_placeOf_32 : decode cX5_placeOf 32 = .ok (.iload 4, 2) := by decide +kernel
theorem dX5_placeOf_34 : decode cX5_placeOf 34 = .ok (.aload_n 0, 1) := by decide +kernel
theorem dX5_placeOf_35 : decode cX5_placeOf 35 = .ok (.getfield 105, 3) := by decide +kernel
theorem dX5_placeOf_38 : decode cX5_placeOf 38 = .ok (.if_icmp .ge 37, 3) := by decide +kernel
theorem dX5_placeOf_41 : decode cX5_placeOf 41 = .ok (.iload_n 3, 1) := by decide +kernel
theorem dX5_placeOf_42 : decode cX5_placeOf 42 = .ok (.aload_n 0, 1) := by decide +kernel
theorem dX5_placeOf_43 : decode cX5_placeOf 43 = .ok (.iload 4, 2) := by decide +kernel
theorem dX5_placeOf_45 : decode cX5_placeOf 45 = .ok (.iload_n 2, 1) := by decide +kernel
theorem dX5_placeOf_46 : decode cX5_placeOf 46 = .ok (.invokevirtual 123, 3) := by decide +kernel
theorem dX5_placeOf_49 : decode cX5_placeOf 49 = .ok (.ifCond .eq 17, 3) := by decide +kernel
theorem dX5_placeOf_52 : decode cX5_placeOf 52 = .ok (.aload_n 0, 1) := by decide +kernel
theorem dX5_placeOf_53 : decode cX5_placeOf 53 = .ok (.iload 4, 2) := by decide +kernel
theorem dX5_placeOf_55 : decode cX5_placeOf 55 = .ok (.iload_n 1, 1) := by decide +kernel
theorem dX5_placeOf_56 : decode cX5_placeOf 56 = .ok (.invokevirtual 115, 3) := by decide +kernel
theorem dX5_placeOf_59 : decode cX5_placeOf 59 = .ok (.ifCond .eq 7, 3) := by decide +kernel
theorem dX5_placeOf_62 : decode cX5_placeOf 62 = .ok (.iconst 1, 1) := by decide +kernel
theorem dX5_placeOf_63 : decode cX5_placeOf 63 = .ok (.goto 4, 3) := by decide +kernel
theorem dX5_placeOf_66 : decode cX5_placeOf 66 = .ok (.iconst 0, 1) := by decide +kernel
theorem dX5_placeOf_67 : decode cX5_placeOf 67 = .ok (.iadd, 1) := by decide +kernel
theorem dX5_placeOf_68 : decode cX5_placeOf 68 = .ok (.istore_n 3, 1) := by decide +kernel
theorem dX5_placeOf_69 : decode cX5_placeOf 69 = .ok (.iinc 4 1, 3) := by decide +kernel
theorem dX5_placeOf_72 : decode cX5_placeOf 72 = .ok (.goto (-40), 3) := by decide +kernel
theorem dX5_placeOf_75 : decode cX5_placeOf 75 = .ok (.iload_n 3, 1) := by decide +kernel
theorem dX5_placeOf_76 : decode cX5_placeOf 76 = .ok (.ireturn, 1) := by decide +kernel
theorem dX5_stateOf_0 : decode cX5_stateOf 0 = .ok (.aload_n 0, 1) := by decide +kernel
theorem dX5_stateOf_1 : decode cX5_stateOf 1 = .ok (.iload_n 1, 1) := by decide +kernel
theorem dX5_stateOf_2 : decode cX5_stateOf 2 = .ok (.invokevirtual 126, 3) := by decide +kernel
theorem dX5_stateOf_5 : decode cX5_stateOf 5 = .ok (.istore_n 2, 1) := by decide +kernel
theorem dX5_stateOf_6 : decode cX5_stateOf 6 = .ok (.iload_n 2, 1) := by decide +kernel
theorem dX5_stateOf_7 : decode cX5_stateOf 7 = .ok (.iconst (-1), 1) := by decide +kernel
theorem dX5_stateOf_8 : decode cX5_stateOf 8 = .ok (.if_icmp .ne 5, 3) := by decide +kernel
theorem dX5_stateOf_11 : decode cX5_stateOf 11 = .ok (.iconst 0, 1) := by decide +kernel
theorem dX5_stateOf_12 : decode cX5_stateOf 12 = .ok (.ireturn, 1) := by decide +kernel
theorem dX5_stateOf_13 : decode cX5_stateOf 13 = .ok (.iload_n 2, 1) := by decide +kernel
theorem dX5_stateOf_14 : decode cX5_stateOf 14 = .ok (.aload_n 0, 1) := by decide +kernel
theorem dX5_stateOf_15 : decode cX5_stateOf 15 = .ok (.getfield 38, 3) := by decide +kernel
theorem dX5_stateOf_18 : decode cX5_stateOf 18 = .ok (.if_icmp .lt 5, 3) := by decide +kernel
theorem dX5_stateOf_21 : decode cX5_stateOf 21 = .ok (.iconst 1, 1) := by decide +kernel
theorem dX5_stateOf_22 : decode cX5_stateOf 22 = .ok (.ireturn, 1) := by decide +kernel
theorem dX5_stateOf_23 : decode cX5_stateOf 23 = .ok (.aload_n 0, 1) := by decide +kernel
theorem dX5_stateOf_24 : decode cX5_stateOf 24 = .ok (.getfield 35, 3) := by decide +kernel
theorem dX5_stateOf_27 : decode cX5_stateOf 27 = .ok (.iload_n 1, 1) := by decide +kernel
theorem dX5_stateOf_28 : decode cX5_stateOf 28 = .ok (.iaload, 1) := by decide +kernel
theorem dX5_stateOf_29 : decode cX5_stateOf 29 = .ok (.aload_n 0, 1) := by decide +kernel
theorem dX5_stateOf_30 : decode cX5_stateOf 30 = .ok (.getfield 42, 3) := by decide +kernel
theorem dX5_stateOf_33 : decode cX5_stateOf 33 = .ok (.if_icmp .ge 7, 3) := by decide +kernel
theorem dX5_stateOf_36 : decode cX5_stateOf 36 = .ok (.iconst 2, 1) := by decide +kernel
theorem dX5_stateOf_37 : decode cX5_stateOf 37 = .ok (.goto 17, 3) := by decide +kernel
theorem dX5_stateOf_40 : decode cX5_stateOf 40 = .ok (.aload_n 0, 1) := by decide +kernel
theorem dX5_stateOf_41 : decode cX5_stateOf 41 = .ok (.getfield 29, 3) := by decide +kernel
theorem dX5_stateOf_44 : decode cX5_stateOf 44 = .ok (.iload_n 1, 1) := by decide +kernel
theorem dX5_stateOf_45 : decode cX5_stateOf 45 = .ok (.baload, 1) := by decide +kernel
theorem dX5_stateOf_46 : decode cX5_stateOf 46 = .ok (.ifCond .eq 7, 3) := by decide +kernel
theorem dX5_stateOf_49 : decode cX5_stateOf 49 = .ok (.iconst 4, 1) := by decide +kernel
theorem dX5_stateOf_50 : decode cX5_stateOf 50 = .ok (.goto 4, 3) := by decide +kernel
theorem dX5_stateOf_53 : decode cX5_stateOf 53 = .ok (.iconst 3, 1) := by decide +kernel
theorem dX5_stateOf_54 : decode cX5_stateOf 54 = .ok (.ireturn, 1) := by decide +kernel
theorem dX5_settle_0 : decode cX5_settle 0 = .ok (.iconst 0, 1) := by decide +kernel
theorem dX5_settle_1 : decode cX5_settle 1 = .ok (.istore_n 1, 1) := by decide +kernel
theorem dX5_settle_2 : decode cX5_settle 2 = .ok (.iload_n 1, 1) := by decide +kernel
theorem dX5_settle_3 : decode cX5_settle 3 = .ok (.aload_n 0, 1) := by decide +kernel
theorem dX5_settle_4 : decode cX5_settle 4 = .ok (.getfield 105, 3) := by decide +kernel
theorem dX5_settle_7 : decode cX5_settle 7 = .ok (.if_icmp .ge 34, 3) := by decide +kernel
theorem dX5_settle_10 : decode cX5_settle 10 = .ok (.aload_n 0, 1) := by decide +kernel
theorem dX5_settle_11 : decode cX5_settle 11 = .ok (.getfield 35, 3) := by decide +kernel
theorem dX5_settle_14 : decode cX5_settle 14 = .ok (.iload_n 1, 1) := by decide +kernel
theorem dX5_settle_15 : decode cX5_settle 15 = .ok (.aload_n 0, 1) := by decide +kernel
theorem dX5_settle_16 : decode cX5_settle 16 = .ok (.iload_n 1, 1) := by decide +kernel
theorem dX5_settle_17 : decode cX5_settle 17 = .ok (.invokevirtual 129, 3) := by decide +kernel
theorem dX5_settle_20 : decode cX5_settle 20 = .ok (.iconst 2, 1) := by decide +kernel
theorem dX5_settle_21 : decode cX5_settle 21 = .ok (.if_icmp .ge 7, 3) := by decide +kernel
theorem dX5_settle_24 : decode cX5_settle 24 = .ok (.iconst 0, 1) := by decide +kernel
theorem dX5_settle_25 : decode cX5_settle 25 = .ok (.goto 9, 3) := by decide +kernel
theorem dX5_settle_28 : decode cX5_settle 28 = .ok (.aload_n 0, 1) := by decide +kernel
theorem dX5_settle_29 : decode cX5_settle 29 = .ok (.getfield 35, 3) := by decide +kernel
theorem dX5_settle_32 : decode cX5_settle 32 = .ok (.iload_n 1, 1) := by decide +kernel
theorem dX5_settle_33 : decode cX5_settle 33 = .ok (.iaload, 1) := by decide +kernel
theorem dX5_settle_34 : decode cX5_settle 34 = .ok (.iastore, 1) := by decide +kernel
theorem dX5_settle_35 : decode cX5_settle 35 = .ok (.iinc 1 1, 3) := by decide +kernel
theorem dX5_settle_38 : decode cX5_settle 38 = .ok (.goto (-36), 3) := by decide +kernel
theorem dX5_settle_41 : decode cX5_settle 41 = .ok (.return_, 1) := by decide +kernel
theorem dX5_toldNow_0 : decode cX5_toldNow 0 = .ok (.iload_n 1, 1) := by decide +kernel
theorem dX5_toldNow_1 : decode cX5_toldNow 1 = .ok (.ifCond .ne 10, 3) := by decide +kernel
theorem dX5_toldNow_4 : decode cX5_toldNow 4 = .ok (.aload_n 0, 1) := by decide +kernel
theorem dX5_toldNow_5 : decode cX5_toldNow 5 = .ok (.getfield 38, 3) := by decide +kernel
theorem dX5_toldNow_8 : decode cX5_toldNow 8 = .ok (.goto 19, 3) := by decide +kernel
theorem dX5_toldNow_11 : decode cX5_toldNow 11 = .ok (.iload_n 1, 1) := by decide +kernel
theorem dX5_toldNow_12 : decode cX5_toldNow 12 = .ok (.iconst 1, 1) := by decide +kernel
theorem dX5_toldNow_13 : decode cX5_toldNow 13 = .ok (.if_icmp .ne 10, 3) := by decide +kernel
theorem dX5_toldNow_16 : decode cX5_toldNow 16 = .ok (.aload_n 0, 1) := by decide +kernel
theorem dX5_toldNow_17 : decode cX5_toldNow 17 = .ok (.getfield 42, 3) := by decide +kernel
theorem dX5_toldNow_20 : decode cX5_toldNow 20 = .ok (.goto 7, 3) := by decide +kernel
theorem dX5_toldNow_23 : decode cX5_toldNow 23 = .ok (.aload_n 0, 1) := by decide +kernel
theorem dX5_toldNow_24 : decode cX5_toldNow 24 = .ok (.getfield 132, 3) := by decide +kernel
theorem dX5_toldNow_27 : decode cX5_toldNow 27 = .ok (.ireturn, 1) := by decide +kernel
theorem dX5_set_0 : decode cX5_set 0 = .ok (.iload_n 1, 1) := by decide +kernel
theorem dX5_set_1 : decode cX5_set 1 = .ok (.iconst 0, 1) := by decide +kernel
theorem dX5_set_2 : decode cX5_set 2 = .ok (.iconst 2, 1) := by decide +kernel
theorem dX5_set_3 : decode cX5_set 3 = .ok (.invokestatic 84, 3) := by decide +kernel
theorem dX5_set_6 : decode cX5_set 6 = .ok (.ifCond .eq 30, 3) := by decide +kernel
theorem dX5_set_9 : decode cX5_set 9 = .ok (.iload_n 2, 1) := by decide +kernel
theorem dX5_set_10 : decode cX5_set 10 = .ok (.iload_n 1, 1) := by decide +kernel
theorem dX5_set_11 : decode cX5_set 11 = .ok (.ifCond .ne 7, 3) := by decide +kernel
theorem dX5_set_14 : decode cX5_set 14 = .ok (.iconst 1, 1) := by decide +kernel
theorem dX5_set_15 : decode cX5_set 15 = .ok (.goto 4, 3) := by decide +kernel
theorem dX5_set_18 : decode cX5_set 18 = .ok (.iconst 0, 1) := by decide +kernel
theorem dX5_set_19 : decode cX5_set 19 = .ok (.iload_n 1, 1) := by decide +kernel
theorem dX5_set_20 : decode cX5_set 20 = .ok (.ifCond .ne 8, 3) := by decide +kernel
theorem dX5_set_23 : decode cX5_set 23 = .ok (.bipush 6, 2) := by decide +kernel
theorem dX5_set_25 : decode cX5_set 25 = .ok (.goto 5, 3) := by decide +kernel
theorem dX5_set_28 : decode cX5_set 28 = .ok (.bipush 9, 2) := by decide +kernel
theorem dX5_set_30 : decode cX5_set 30 = .ok (.invokestatic 84, 3) := by decide +kernel
theorem dX5_set_33 : decode cX5_set 33 = .ok (.ifCond .ne 7, 3) := by decide +kernel
theorem dX5_set_36 : decode cX5_set 36 = .ok (.sipush (-1002), 3) := by decide +kernel
theorem dX5_set_39 : decode cX5_set 39 = .ok (.ireturn, 1) := by decide +kernel
theorem dX5_set_40 : decode cX5_set 40 = .ok (.aload_n 0, 1) := by decide +kernel
theorem dX5_set_41 : decode cX5_set 41 = .ok (.iload_n 1, 1) := by decide +kernel
theorem dX5_set_42 : decode cX5_set 42 = .ok (.invokevirtual 135, 3) := by decide +kernel
theorem dX5_set_45 : decode cX5_set 45 = .ok (.istore_n 3, 1) := by decide +kernel
theorem dX5_set_46 : decode cX5_set 46 = .ok (.aload_n 0, 1) := by decide +kernel
theorem dX5_set_47 : decode cX5_set 47 = .ok (.iload_n 1, 1) := by decide +kernel
theorem dX5_set_48 : decode cX5_set 48 = .ok (.ifCond .ne 7, 3) := by decide +kernel
theorem dX5_set_51 : decode cX5_set 51 = .ok (.iload_n 2, 1) := by decide +kernel
theorem dX5_set_52 : decode cX5_set 52 = .ok (.goto 7, 3) := by decide +kernel
theorem dX5_set_55 : decode cX5_set 55 = .ok (.aload_n 0, 1) := by decide +kernel
theorem dX5_set_56 : decode cX5_set 56 = .ok (.getfield 38, 3) := by decide +kernel
theorem dX5_set_59 : decode cX5_set 59 = .ok (.putfield 38, 3) := by decide +kernel
theorem dX5_set_62 : decode cX5_set 62 = .ok (.aload_n 0, 1) := by decide +kernel
theorem dX5_set_63 : decode cX5_set 63 = .ok (.iload_n 1, 1) := by decide +kernel
theorem dX5_set_64 : decode cX5_set 64 = .ok (.iconst 1, 1) := by decide +kernel
theorem dX5_set_65 : decode cX5_set 65 = .ok (.if_icmp .ne 7, 3) := by decide +kernel
theorem dX5_set_68 : decode cX5_set 68 = .ok (.iload_n 2, 1) := by decide +kernel
theorem dX5_set_69 : decode cX5_set 69 = .ok (.goto 7, 3) := by decide +kernel
theorem dX5_set_72 : decode cX5_set 72 = .ok (.aload_n 0, 1) := by decide +kernel
theorem dX5_set_73 : decode cX5_set 73 = .ok (.getfield 42, 3) := by decide +kernel
theorem dX5_set_76 : decode cX5_set 76 = .ok (.putfield 42, 3) := by decide +kernel
theorem dX5_set_79 : decode cX5_set 79 = .ok (.aload_n 0, 1) := by decide +kernel
theorem dX5_set_80 : decode cX5_set 80 = .ok (.iload_n 1, 1) := by decide +kernel
theorem dX5_set_81 : decode cX5_set 81 = .ok (.iconst 2, 1) := by decide +kernel
theorem dX5_set_82 : decode cX5_set 82 = .ok (.if_icmp .ne 7, 3) := by decide +kernel
theorem dX5_set_85 : decode cX5_set 85 = .ok (.iload_n 2, 1) := by decide +kernel
theorem dX5_set_86 : decode cX5_set 86 = .ok (.goto 7, 3) := by decide +kernel
theorem dX5_set_89 : decode cX5_set 89 = .ok (.aload_n 0, 1) := by decide +kernel
theorem dX5_set_90 : decode cX5_set 90 = .ok (.getfield 132, 3) := by decide +kernel
theorem dX5_set_93 : decode cX5_set 93 = .ok (.putfield 132, 3) := by decide +kernel
theorem dX5_set_96 : decode cX5_set 96 = .ok (.aload_n 0, 1) := by decide +kernel
theorem dX5_set_97 : decode cX5_set 97 = .ok (.invokevirtual 138, 3) := by decide +kernel
theorem dX5_set_100 : decode cX5_set 100 = .ok (.iload_n 3, 1) := by decide +kernel
theorem dX5_set_101 : decode cX5_set 101 = .ok (.ireturn, 1) := by decide +kernel
theorem dX5_rank_0 : decode cX5_rank 0 = .ok (.aload_n 0, 1) := by decide +kernel
theorem dX5_rank_1 : decode cX5_rank 1 = .ok (.iload_n 1, 1) := by decide +kernel
theorem dX5_rank_2 : decode cX5_rank 2 = .ok (.invokevirtual 141, 3) := by decide +kernel
theorem dX5_rank_5 : decode cX5_rank 5 = .ok (.ifCond .ne 7, 3) := by decide +kernel
theorem dX5_rank_8 : decode cX5_rank 8 = .ok (.sipush (-1001), 3) := by decide +kernel
theorem dX5_rank_11 : decode cX5_rank 11 = .ok (.ireturn, 1) := by decide +kernel
theorem dX5_rank_12 : decode cX5_rank 12 = .ok (.iload_n 2, 1) := by decide +kernel
theorem dX5_rank_13 : decode cX5_rank 13 = .ok (.iconst 0, 1) := by decide +kernel
theorem dX5_rank_14 : decode cX5_rank 14 = .ok (.bipush 9, 2) := by decide +kernel
theorem dX5_rank_16 : decode cX5_rank 16 = .ok (.invokestatic 84, 3) := by decide +kernel
theorem dX5_rank_19 : decode cX5_rank 19 = .ok (.ifCond .ne 7, 3) := by decide +kernel
theorem dX5_rank_22 : decode cX5_rank 22 = .ok (.sipush (-1002), 3) := by decide +kernel
theorem dX5_rank_25 : decode cX5_rank 25 = .ok (.ireturn, 1) := by decide +kernel
theorem dX5_rank_26 : decode cX5_rank 26 = .ok (.aload_n 0, 1) := by decide +kernel
theorem dX5_rank_27 : decode cX5_rank 27 = .ok (.getfield 16, 3) := by decide +kernel
theorem dX5_rank_30 : decode cX5_rank 30 = .ok (.iload_n 1, 1) := by decide +kernel
theorem dX5_rank_31 : decode cX5_rank 31 = .ok (.iaload, 1) := by decide +kernel
theorem dX5_rank_32 : decode cX5_rank 32 = .ok (.istore_n 3, 1) := by decide +kernel
theorem dX5_rank_33 : decode cX5_rank 33 = .ok (.aload_n 0, 1) := by decide +kernel
theorem dX5_rank_34 : decode cX5_rank 34 = .ok (.getfield 16, 3) := by decide +kernel
theorem dX5_rank_37 : decode cX5_rank 37 = .ok (.iload_n 1, 1) := by decide +kernel
theorem dX5_rank_38 : decode cX5_rank 38 = .ok (.iload_n 2, 1) := by decide +kernel
theorem dX5_rank_39 : decode cX5_rank 39 = .ok (.iastore, 1) := by decide +kernel
theorem dX5_rank_40 : decode cX5_rank 40 = .ok (.aload_n 0, 1) := by decide +kernel
theorem dX5_rank_41 : decode cX5_rank 41 = .ok (.invokevirtual 138, 3) := by decide +kernel
theorem dX5_rank_44 : decode cX5_rank 44 = .ok (.iload_n 3, 1) := by decide +kernel
theorem dX5_rank_45 : decode cX5_rank 45 = .ok (.ireturn, 1) := by decide +kernel
theorem dX5_up_0 : decode cX5_up 0 = .ok (.aload_n 0, 1) := by decide +kernel
theorem dX5_up_1 : decode cX5_up 1 = .ok (.iload_n 1, 1) := by decide +kernel
theorem dX5_up_2 : decode cX5_up 2 = .ok (.invokevirtual 141, 3) := by decide +kernel
theorem dX5_up_5 : decode cX5_up 5 = .ok (.ifCond .ne 7, 3) := by decide +kernel
theorem dX5_up_8 : decode cX5_up 8 = .ok (.sipush (-1001), 3) := by decide +kernel
theorem dX5_up_11 : decode cX5_up 11 = .ok (.ireturn, 1) := by decide +kernel
theorem dX5_up_12 : decode cX5_up 12 = .ok (.aload_n 0, 1) := by decide +kernel
theorem dX5_up_13 : decode cX5_up 13 = .ok (.getfield 19, 3) := by decide +kernel
theorem dX5_up_16 : decode cX5_up 16 = .ok (.iload_n 1, 1) := by decide +kernel
theorem dX5_up_17 : decode cX5_up 17 = .ok (.baload, 1) := by decide +kernel
theorem dX5_up_18 : decode cX5_up 18 = .ok (.ifCond .eq 7, 3) := by decide +kernel
theorem dX5_up_21 : decode cX5_up 21 = .ok (.iconst 1, 1) := by decide +kernel
theorem dX5_up_22 : decode cX5_up 22 = .ok (.goto 4, 3) := by decide +kernel
theorem dX5_up_25 : decode cX5_up 25 = .ok (.iconst 0, 1) := by decide +kernel
theorem dX5_up_26 : decode cX5_up 26 = .ok (.istore_n 3, 1) := by decide +kernel
theorem dX5_up_27 : decode cX5_up 27 = .ok (.aload_n 0, 1) := by decide +kernel
theorem dX5_up_28 : decode cX5_up 28 = .ok (.getfield 19, 3) := by decide +kernel
theorem dX5_up_31 : decode cX5_up 31 = .ok (.iload_n 1, 1) := by decide +kernel
theorem dX5_up_32 : decode cX5_up 32 = .ok (.iload_n 2, 1) := by decide +kernel
theorem dX5_up_33 : decode cX5_up 33 = .ok (.bastore, 1) := by decide +kernel
theorem dX5_up_34 : decode cX5_up 34 = .ok (.iload_n 3, 1) := by decide +kernel
theorem dX5_up_35 : decode cX5_up 35 = .ok (.iconst 1, 1) := by decide +kernel
theorem dX5_up_36 : decode cX5_up 36 = .ok (.if_icmp .ne 21, 3) := by decide +kernel
theorem dX5_up_39 : decode cX5_up 39 = .ok (.iload_n 2, 1) := by decide +kernel
theorem dX5_up_40 : decode cX5_up 40 = .ok (.ifCond .ne 17, 3) := by decide +kernel
theorem dX5_up_43 : decode cX5_up 43 = .ok (.aload_n 0, 1) := by decide +kernel
theorem dX5_up_44 : decode cX5_up 44 = .ok (.iload_n 1, 1) := by decide +kernel
theorem dX5_up_45 : decode cX5_up 45 = .ok (.invokevirtual 108, 3) := by decide +kernel
theorem dX5_up_48 : decode cX5_up 48 = .ok (.aload_n 0, 1) := by decide +kernel
theorem dX5_up_49 : decode cX5_up 49 = .ok (.invokevirtual 138, 3) := by decide +kernel
theorem dX5_up_52 : decode cX5_up 52 = .ok (.aload_n 0, 1) := by decide +kernel
theorem dX5_up_53 : decode cX5_up 53 = .ok (.iload_n 1, 1) := by decide +kernel
theorem dX5_up_54 : decode cX5_up 54 = .ok (.invokevirtual 144, 3) := by decide +kernel
theorem dX5_up_57 : decode cX5_up 57 = .ok (.iload_n 3, 1) := by decide +kernel
theorem dX5_up_58 : decode cX5_up 58 = .ok (.ireturn, 1) := by decide +kernel
theorem dX5_hear_0 : decode cX5_hear 0 = .ok (.aload_n 0, 1) := by decide +kernel
theorem dX5_hear_1 : decode cX5_hear 1 = .ok (.iload_n 1, 1) := by decide +kernel
theorem dX5_hear_2 : decode cX5_hear 2 = .ok (.invokevirtual 141, 3) := by decide +kernel
theorem dX5_hear_5 : decode cX5_hear 5 = .ok (.ifCond .ne 7, 3) := by decide +kernel
theorem dX5_hear_8 : decode cX5_hear 8 = .ok (.sipush (-1001), 3) := by decide +kernel
theorem dX5_hear_11 : decode cX5_hear 11 = .ok (.ireturn, 1) := by decide +kernel
theorem dX5_hear_12 : decode cX5_hear 12 = .ok (.iload_n 2, 1) := by decide +kernel
theorem dX5_hear_13 : decode cX5_hear 13 = .ok (.iconst 1, 1) := by decide +kernel
theorem dX5_hear_14 : decode cX5_hear 14 = .ok (.bipush 9, 2) := by decide +kernel
theorem dX5_hear_16 : decode cX5_hear 16 = .ok (.invokestatic 84, 3) := by decide +kernel
theorem dX5_hear_19 : decode cX5_hear 19 = .ok (.ifCond .eq 12, 3) := by decide +kernel
theorem dX5_hear_22 : decode cX5_hear 22 = .ok (.iload_n 3, 1) := by decide +kernel
theorem dX5_hear_23 : decode cX5_hear 23 = .ok (.iconst 0, 1) := by decide +kernel
theorem dX5_hear_24 : decode cX5_hear 24 = .ok (.iconst 3, 1) := by decide +kernel
theorem dX5_hear_25 : decode cX5_hear 25 = .ok (.invokestatic 84, 3) := by decide +kernel
theorem dX5_hear_28 : decode cX5_hear 28 = .ok (.ifCond .ne 7, 3) := by decide +kernel
theorem dX5_hear_31 : decode cX5_hear 31 = .ok (.sipush (-1002), 3) := by decide +kernel
theorem dX5_hear_34 : decode cX5_hear 34 = .ok (.ireturn, 1) := by decide +kernel
theorem dX5_hear_35 : decode cX5_hear 35 = .ok (.aload_n 0, 1) := by decide +kernel
theorem dX5_hear_36 : decode cX5_hear 36 = .ok (.getfield 19, 3) := by decide +kernel
theorem dX5_hear_39 : decode cX5_hear 39 = .ok (.iload_n 1, 1) := by decide +kernel
theorem dX5_hear_40 : decode cX5_hear 40 = .ok (.baload, 1) := by decide +kernel
theorem dX5_hear_41 : decode cX5_hear 41 = .ok (.ifCond .ne 7, 3) := by decide +kernel
theorem dX5_hear_44 : decode cX5_hear 44 = .ok (.sipush (-1003), 3) := by decide +kernel
theorem dX5_hear_47 : decode cX5_hear 47 = .ok (.ireturn, 1) := by decide +kernel
theorem dX5_hear_48 : decode cX5_hear 48 = .ok (.aload_n 0, 1) := by decide +kernel
theorem dX5_hear_49 : decode cX5_hear 49 = .ok (.getfield 23, 3) := by decide +kernel
theorem dX5_hear_52 : decode cX5_hear 52 = .ok (.iload_n 1, 1) := by decide +kernel
theorem dX5_hear_53 : decode cX5_hear 53 = .ok (.iload_n 2, 1) := by decide +kernel
theorem dX5_hear_54 : decode cX5_hear 54 = .ok (.iastore, 1) := by decide +kernel
theorem dX5_hear_55 : decode cX5_hear 55 = .ok (.aload_n 0, 1) := by decide +kernel
theorem dX5_hear_56 : decode cX5_hear 56 = .ok (.getfield 26, 3) := by decide +kernel
theorem dX5_hear_59 : decode cX5_hear 59 = .ok (.iload_n 1, 1) := by decide +kernel
theorem dX5_hear_60 : decode cX5_hear 60 = .ok (.iload_n 3, 1) := by decide +kernel
theorem dX5_hear_61 : decode cX5_hear 61 = .ok (.iastore, 1) := by decide +kernel
theorem dX5_hear_62 : decode cX5_hear 62 = .ok (.aload_n 0, 1) := by decide +kernel
theorem dX5_hear_63 : decode cX5_hear 63 = .ok (.getfield 29, 3) := by decide +kernel
theorem dX5_hear_66 : decode cX5_hear 66 = .ok (.iload_n 1, 1) := by decide +kernel
theorem dX5_hear_67 : decode cX5_hear 67 = .ok (.iload 4, 2) := by decide +kernel
theorem dX5_hear_69 : decode cX5_hear 69 = .ok (.bastore, 1) := by decide +kernel
theorem dX5_hear_70 : decode cX5_hear 70 = .ok (.aload_n 0, 1) := by decide +kernel
theorem dX5_hear_71 : decode cX5_hear 71 = .ok (.getfield 32, 3) := by decide +kernel
theorem dX5_hear_74 : decode cX5_hear 74 = .ok (.iload_n 1, 1) := by decide +kernel
theorem dX5_hear_75 : decode cX5_hear 75 = .ok (.iconst 0, 1) := by decide +kernel
theorem dX5_hear_76 : decode cX5_hear 76 = .ok (.iastore, 1) := by decide +kernel
theorem dX5_hear_77 : decode cX5_hear 77 = .ok (.aload_n 0, 1) := by decide +kernel
theorem dX5_hear_78 : decode cX5_hear 78 = .ok (.invokevirtual 138, 3) := by decide +kernel
theorem dX5_hear_81 : decode cX5_hear 81 = .ok (.aload_n 0, 1) := by decide +kernel
theorem dX5_hear_82 : decode cX5_hear 82 = .ok (.iload_n 1, 1) := by decide +kernel
theorem dX5_hear_83 : decode cX5_hear 83 = .ok (.invokevirtual 129, 3) := by decide +kernel
theorem dX5_hear_86 : decode cX5_hear 86 = .ok (.iconst 4, 1) := by decide +kernel
theorem dX5_hear_87 : decode cX5_hear 87 = .ok (.if_icmp .ne 7, 3) := by decide +kernel
theorem dX5_hear_90 : decode cX5_hear 90 = .ok (.iconst 1, 1) := by decide +kernel
theorem dX5_hear_91 : decode cX5_hear 91 = .ok (.goto 4, 3) := by decide +kernel
theorem dX5_hear_94 : decode cX5_hear 94 = .ok (.iconst 0, 1) := by decide +kernel
theorem dX5_hear_95 : decode cX5_hear 95 = .ok (.ireturn, 1) := by decide +kernel
theorem dX5_portNow_0 : decode cX5_portNow 0 = .ok (.aload_n 0, 1) := by decide +kernel
theorem dX5_portNow_1 : decode cX5_portNow 1 = .ok (.getfield 23, 3) := by decide +kernel
theorem dX5_portNow_4 : decode cX5_portNow 4 = .ok (.iload_n 1, 1) := by decide +kernel
theorem dX5_portNow_5 : decode cX5_portNow 5 = .ok (.iaload, 1) := by decide +kernel
theorem dX5_portNow_6 : decode cX5_portNow 6 = .ok (.ifCond .le 7, 3) := by decide +kernel
theorem dX5_portNow_9 : decode cX5_portNow 9 = .ok (.iconst 1, 1) := by decide +kernel
theorem dX5_portNow_10 : decode cX5_portNow 10 = .ok (.goto 4, 3) := by decide +kernel
theorem dX5_portNow_13 : decode cX5_portNow 13 = .ok (.iconst 0, 1) := by decide +kernel
theorem dX5_portNow_14 : decode cX5_portNow 14 = .ok (.istore_n 3, 1) := by decide +kernel
theorem dX5_portNow_15 : decode cX5_portNow 15 = .ok (.iload_n 2, 1) := by decide +kernel
theorem dX5_portNow_16 : decode cX5_portNow 16 = .ok (.tableswitch 162 0 8 #[52, 59, 66, 81, 96, 111, 134, 149, 155], 52) := by decide +kernel
theorem dX5_portNow_68 : decode cX5_portNow 68 = .ok (.aload_n 0, 1) := by decide +kernel
theorem dX5_portNow_69 : decode cX5_portNow 69 = .ok (.getfield 13, 3) := by decide +kernel
theorem dX5_portNow_72 : decode cX5_portNow 72 = .ok (.iload_n 1, 1) := by decide +kernel
theorem dX5_portNow_73 : decode cX5_portNow 73 = .ok (.iaload, 1) := by decide +kernel
theorem dX5_portNow_74 : decode cX5_portNow 74 = .ok (.ireturn, 1) := by decide +kernel
theorem dX5_portNow_75 : decode cX5_portNow 75 = .ok (.aload_n 0, 1) := by decide +kernel
theorem dX5_portNow_76 : decode cX5_portNow 76 = .ok (.getfield 16, 3) := by decide +kernel
theorem dX5_portNow_79 : decode cX5_portNow 79 = .ok (.iload_n 1, 1) := by decide +kernel
theorem dX5_portNow_80 : decode cX5_portNow 80 = .ok (.iaload, 1) := by decide +kernel
theorem dX5_portNow_81 : decode cX5_portNow 81 = .ok (.ireturn, 1) := by decide +kernel
theorem dX5_portNow_82 : decode cX5_portNow 82 = .ok (.aload_n 0, 1) := by decide +kernel
theorem dX5_portNow_83 : decode cX5_portNow 83 = .ok (.getfield 19, 3) := by decide +kernel
theorem dX5_portNow_86 : decode cX5_portNow 86 = .ok (.iload_n 1, 1) := by decide +kernel
theorem dX5_portNow_87 : decode cX5_portNow 87 = .ok (.baload, 1) := by decide +kernel
theorem dX5_portNow_88 : decode cX5_portNow 88 = .ok (.ifCond .eq 7, 3) := by decide +kernel
theorem dX5_portNow_91 : decode cX5_portNow 91 = .ok (.iconst 1, 1) := by decide +kernel
theorem dX5_portNow_92 : decode cX5_portNow 92 = .ok (.goto 4, 3) := by decide +kernel
theorem dX5_portNow_95 : decode cX5_portNow 95 = .ok (.iconst 0, 1) := by decide +kernel
theorem dX5_portNow_96 : decode cX5_portNow 96 = .ok (.ireturn, 1) := by decide +kernel
theorem dX5_portNow_97 : decode cX5_portNow 97 = .ok (.iload_n 3, 1) := by decide +kernel
theorem dX5_portNow_98 : decode cX5_portNow 98 = .ok (.ifCond .eq 12, 3) := by decide +kernel
theorem dX5_portNow_101 : decode cX5_portNow 101 = .ok (.aload_n 0, 1) := by decide +kernel
theorem dX5_portNow_102 : decode cX5_portNow 102 = .ok (.getfield 23, 3) := by decide +kernel
theorem dX5_portNow_105 : decode cX5_portNow 105 = .ok (.iload_n 1, 1) := by decide +kernel
theorem dX5_portNow_106 : decode cX5_portNow 106 = .ok (.iaload, 1) := by decide +kernel
theorem dX5_portNow_107 : decode cX5_portNow 107 = .ok (.goto 4, 3) := by decide +kernel
theorem dX5_portNow_110 : decode cX5_portNow 110 = .ok (.iconst (-1), 1) := by decide +kernel
theorem dX5_portNow_111 : decode cX5_portNow 111 = .ok (.ireturn, 1) := by decide +kernel
theorem dX5_portNow_112 : decode cX5_portNow 112 = .ok (.iload_n 3, 1) := by decide +kernel
theorem dX5_portNow_113 : decode cX5_portNow 113 = .ok (.ifCond .eq 12, 3) := by decide +kernel
theorem dX5_portNow_116 : decode cX5_portNow 116 = .ok (.aload_n 0, 1) := by decide +kernel
theorem dX5_portNow_117 : decode cX5_portNow 117 = .ok (.getfield 26, 3) := by decide +kernel
theorem dX5_portNow_120 : decode cX5_portNow 120 = .ok (.iload_n 1, 1) := by decide +kernel
theorem dX5_portNow_121 : decode cX5_portNow 121 = .ok (.iaload, 1) := by decide +kernel
theorem dX5_portNow_122 : decode cX5_portNow 122 = .ok (.goto 4, 3) := by decide +kernel
theorem dX5_portNow_125 : decode cX5_portNow 125 = .ok (.iconst (-1), 1) := by decide +kernel
theorem dX5_portNow_126 : decode cX5_portNow 126 = .ok (.ireturn, 1) := by decide +kernel
theorem dX5_portNow_127 : decode cX5_portNow 127 = .ok (.iload_n 3, 1) := by decide +kernel
theorem dX5_portNow_128 : decode cX5_portNow 128 = .ok (.ifCond .ne 7, 3) := by decide +kernel
theorem dX5_portNow_131 : decode cX5_portNow 131 = .ok (.iconst (-1), 1) := by decide +kernel
theorem dX5_portNow_132 : decode cX5_portNow 132 = .ok (.goto 17, 3) := by decide +kernel
theorem dX5_portNow_135 : decode cX5_portNow 135 = .ok (.aload_n 0, 1) := by decide +kernel
theorem dX5_portNow_136 : decode cX5_portNow 136 = .ok (.getfield 29, 3) := by decide +kernel
theorem dX5_portNow_139 : decode cX5_portNow 139 = .ok (.iload_n 1, 1) := by decide +kernel
theorem dX5_portNow_140 : decode cX5_portNow 140 = .ok (.baload, 1) := by decide +kernel
theorem dX5_portNow_141 : decode cX5_portNow 141 = .ok (.ifCond .eq 7, 3) := by decide +kernel
theorem dX5_portNow_144 : decode cX5_portNow 144 = .ok (.iconst 1, 1) := by decide +kernel
theorem dX5_portNow_145 : decode cX5_portNow 145 = .ok (.goto 4, 3) := by decide +kernel
theorem dX5_portNow_148 : decode cX5_portNow 148 = .ok (.iconst 0, 1) := by decide +kernel
theorem dX5_portNow_149 : decode cX5_portNow 149 = .ok (.ireturn, 1) := by decide +kernel
theorem dX5_portNow_150 : decode cX5_portNow 150 = .ok (.iload_n 3, 1) := by decide +kernel
theorem dX5_portNow_151 : decode cX5_portNow 151 = .ok (.ifCond .eq 12, 3) := by decide +kernel
theorem dX5_portNow_154 : decode cX5_portNow 154 = .ok (.aload_n 0, 1) := by decide +kernel
theorem dX5_portNow_155 : decode cX5_portNow 155 = .ok (.getfield 32, 3) := by decide +kernel
theorem dX5_portNow_158 : decode cX5_portNow 158 = .ok (.iload_n 1, 1) := by decide +kernel
theorem dX5_portNow_159 : decode cX5_portNow 159 = .ok (.iaload, 1) := by decide +kernel
theorem dX5_portNow_160 : decode cX5_portNow 160 = .ok (.goto 4, 3) := by decide +kernel
theorem dX5_portNow_163 : decode cX5_portNow 163 = .ok (.iconst (-1), 1) := by decide +kernel
theorem dX5_portNow_164 : decode cX5_portNow 164 = .ok (.ireturn, 1) := by decide +kernel
theorem dX5_portNow_165 : decode cX5_portNow 165 = .ok (.aload_n 0, 1) := by decide +kernel
theorem dX5_portNow_166 : decode cX5_portNow 166 = .ok (.iload_n 1, 1) := by decide +kernel
theorem dX5_portNow_167 : decode cX5_portNow 167 = .ok (.invokevirtual 129, 3) := by decide +kernel
theorem dX5_portNow_170 : decode cX5_portNow 170 = .ok (.ireturn, 1) := by decide +kernel
theorem dX5_portNow_171 : decode cX5_portNow 171 = .ok (.aload_n 0, 1) := by decide +kernel
theorem dX5_portNow_172 : decode cX5_portNow 172 = .ok (.getfield 35, 3) := by decide +kernel
theorem dX5_portNow_175 : decode cX5_portNow 175 = .ok (.iload_n 1, 1) := by decide +kernel
theorem dX5_portNow_176 : decode cX5_portNow 176 = .ok (.iaload, 1) := by decide +kernel
theorem dX5_portNow_177 : decode cX5_portNow 177 = .ok (.ireturn, 1) := by decide +kernel
theorem dX5_portNow_178 : decode cX5_portNow 178 = .ok (.aload_n 0, 1) := by decide +kernel
theorem dX5_portNow_179 : decode cX5_portNow 179 = .ok (.getfield 51, 3) := by decide +kernel
theorem dX5_portNow_182 : decode cX5_portNow 182 = .ok (.iload_n 1, 1) := by decide +kernel
theorem dX5_portNow_183 : decode cX5_portNow 183 = .ok (.iaload, 1) := by decide +kernel
theorem dX5_portNow_184 : decode cX5_portNow 184 = .ok (.ireturn, 1) := by decide +kernel
theorem dX5_of_0 : decode cX5_of 0 = .ok (.aload_n 0, 1) := by decide +kernel
theorem dX5_of_1 : decode cX5_of 1 = .ok (.iload_n 1, 1) := by decide +kernel
theorem dX5_of_2 : decode cX5_of 2 = .ok (.invokevirtual 141, 3) := by decide +kernel
theorem dX5_of_5 : decode cX5_of 5 = .ok (.ifCond .ne 7, 3) := by decide +kernel
theorem dX5_of_8 : decode cX5_of 8 = .ok (.sipush (-1001), 3) := by decide +kernel
theorem dX5_of_11 : decode cX5_of 11 = .ok (.ireturn, 1) := by decide +kernel
theorem dX5_of_12 : decode cX5_of 12 = .ok (.iload_n 2, 1) := by decide +kernel
theorem dX5_of_13 : decode cX5_of 13 = .ok (.iconst 0, 1) := by decide +kernel
theorem dX5_of_14 : decode cX5_of 14 = .ok (.bipush 9, 2) := by decide +kernel
theorem dX5_of_16 : decode cX5_of 16 = .ok (.invokestatic 84, 3) := by decide +kernel
theorem dX5_of_19 : decode cX5_of 19 = .ok (.ifCond .eq 12, 3) := by decide +kernel
theorem dX5_of_22 : decode cX5_of 22 = .ok (.aload_n 0, 1) := by decide +kernel
theorem dX5_of_23 : decode cX5_of 23 = .ok (.iload_n 1, 1) := by decide +kernel
theorem dX5_of_24 : decode cX5_of 24 = .ok (.iload_n 2, 1) := by decide +kernel
theorem dX5_of_25 : decode cX5_of 25 = .ok (.invokevirtual 147, 3) := by decide +kernel
theorem dX5_of_28 : decode cX5_of 28 = .ok (.goto 6, 3) := by decide +kernel
theorem dX5_of_31 : decode cX5_of 31 = .ok (.sipush (-1002), 3) := by decide +kernel
theorem dX5_of_34 : decode cX5_of 34 = .ok (.ireturn, 1) := by decide +kernel
theorem dX5_queueNow_0 : decode cX5_queueNow 0 = .ok (.aload_n 0, 1) := by decide +kernel
theorem dX5_queueNow_1 : decode cX5_queueNow 1 = .ok (.getfield 45, 3) := by decide +kernel
theorem dX5_queueNow_4 : decode cX5_queueNow 4 = .ok (.bipush 24, 2) := by decide +kernel
theorem dX5_queueNow_6 : decode cX5_queueNow 6 = .ok (.iload_n 1, 1) := by decide +kernel
theorem dX5_queueNow_7 : decode cX5_queueNow 7 = .ok (.imul, 1) := by decide +kernel
theorem dX5_queueNow_8 : decode cX5_queueNow 8 = .ok (.iload_n 2, 1) := by decide +kernel
theorem dX5_queueNow_9 : decode cX5_queueNow 9 = .ok (.iadd, 1) := by decide +kernel
theorem dX5_queueNow_10 : decode cX5_queueNow 10 = .ok (.iaload, 1) := by decide +kernel
theorem dX5_queueNow_11 : decode cX5_queueNow 11 = .ok (.istore_n 3, 1) := by decide +kernel
theorem dX5_queueNow_12 : decode cX5_queueNow 12 = .ok (.aload_n 0, 1) := by decide +kernel
theorem dX5_queueNow_13 : decode cX5_queueNow 13 = .ok (.getfield 48, 3) := by decide +kernel
theorem dX5_queueNow_16 : decode cX5_queueNow 16 = .ok (.bipush 24, 2) := by decide +kernel
theorem dX5_queueNow_18 : decode cX5_queueNow 18 = .ok (.iload_n 1, 1) := by decide +kernel
theorem dX5_queueNow_19 : decode cX5_queueNow 19 = .ok (.imul, 1) := by decide +kernel
theorem dX5_queueNow_20 : decode cX5_queueNow 20 = .ok (.iload_n 2, 1) := by decide +kernel
theorem dX5_queueNow_21 : decode cX5_queueNow 21 = .ok (.iadd, 1) := by decide +kernel
theorem dX5_queueNow_22 : decode cX5_queueNow 22 = .ok (.iaload, 1) := by decide +kernel
theorem dX5_queueNow_23 : decode cX5_queueNow 23 = .ok (.istore 4, 2) := by decide +kernel
theorem dX5_queueNow_25 : decode cX5_queueNow 25 = .ok (.iload 4, 2) := by decide +kernel
theorem dX5_queueNow_27 : decode cX5_queueNow 27 = .ok (.ifCond .ne 9, 3) := by decide +kernel
theorem dX5_queueNow_30 : decode cX5_queueNow 30 = .ok (.iconst (-1), 1) := by decide +kernel
theorem dX5_queueNow_31 : decode cX5_queueNow 31 = .ok (.iload_n 3, 1) := by decide +kernel
theorem dX5_queueNow_32 : decode cX5_queueNow 32 = .ok (.isub, 1) := by decide +kernel
theorem dX5_queueNow_33 : decode cX5_queueNow 33 = .ok (.goto 13, 3) := by decide +kernel
theorem dX5_queueNow_36 : decode cX5_queueNow 36 = .ok (.bipush 100, 2) := by decide +kernel
theorem dX5_queueNow_38 : decode cX5_queueNow 38 = .ok (.iload_n 3, 1) := by decide +kernel
theorem dX5_queueNow_39 : decode cX5_queueNow 39 = .ok (.imul, 1) := by decide +kernel
theorem dX5_queueNow_40 : decode cX5_queueNow 40 = .ok (.iload 4, 2) := by decide +kernel
theorem dX5_queueNow_42 : decode cX5_queueNow 42 = .ok (.bipush 100, 2) := by decide +kernel
theorem dX5_queueNow_44 : decode cX5_queueNow 44 = .ok (.irem, 1) := by decide +kernel
theorem dX5_queueNow_45 : decode cX5_queueNow 45 = .ok (.iadd, 1) := by decide +kernel
theorem dX5_queueNow_46 : decode cX5_queueNow 46 = .ok (.ireturn, 1) := by decide +kernel
theorem dX5_queue_0 : decode cX5_queue 0 = .ok (.aload_n 0, 1) := by decide +kernel
theorem dX5_queue_1 : decode cX5_queue 1 = .ok (.iload_n 1, 1) := by decide +kernel
theorem dX5_queue_2 : decode cX5_queue 2 = .ok (.invokevirtual 141, 3) := by decide +kernel
theorem dX5_queue_5 : decode cX5_queue 5 = .ok (.ifCond .eq 28, 3) := by decide +kernel
theorem dX5_queue_8 : decode cX5_queue 8 = .ok (.iload_n 2, 1) := by decide +kernel
theorem dX5_queue_9 : decode cX5_queue 9 = .ok (.iconst 0, 1) := by decide +kernel
theorem dX5_queue_10 : decode cX5_queue 10 = .ok (.aload_n 0, 1) := by decide +kernel
theorem dX5_queue_11 : decode cX5_queue 11 = .ok (.getfield 51, 3) := by decide +kernel
theorem dX5_queue_14 : decode cX5_queue 14 = .ok (.iload_n 1, 1) := by decide +kernel
theorem dX5_queue_15 : decode cX5_queue 15 = .ok (.iaload, 1) := by decide +kernel
theorem dX5_queue_16 : decode cX5_queue 16 = .ok (.iconst 1, 1) := by decide +kernel
theorem dX5_queue_17 : decode cX5_queue 17 = .ok (.isub, 1) := by decide +kernel
theorem dX5_queue_18 : decode cX5_queue 18 = .ok (.invokestatic 84, 3) := by decide +kernel
theorem dX5_queue_21 : decode cX5_queue 21 = .ok (.ifCond .eq 12, 3) := by decide +kernel
theorem dX5_queue_24 : decode cX5_queue 24 = .ok (.aload_n 0, 1) := by decide +kernel
theorem dX5_queue_25 : decode cX5_queue 25 = .ok (.iload_n 1, 1) := by decide +kernel
theorem dX5_queue_26 : decode cX5_queue 26 = .ok (.iload_n 2, 1) := by decide +kernel
theorem dX5_queue_27 : decode cX5_queue 27 = .ok (.invokevirtual 151, 3) := by decide +kernel
theorem dX5_queue_30 : decode cX5_queue 30 = .ok (.goto 6, 3) := by decide +kernel
theorem dX5_queue_33 : decode cX5_queue 33 = .ok (.sipush (-1001), 3) := by decide +kernel
theorem dX5_queue_36 : decode cX5_queue 36 = .ok (.ireturn, 1) := by decide +kernel
theorem dX5_bitsOf_0 : decode cX5_bitsOf 0 = .ok (.iconst 0, 1) := by decide +kernel
theorem dX5_bitsOf_1 : decode cX5_bitsOf 1 = .ok (.istore 4, 2) := by decide +kernel
theorem dX5_bitsOf_3 : decode cX5_bitsOf 3 = .ok (.iconst 0, 1) := by decide +kernel
theorem dX5_bitsOf_4 : decode cX5_bitsOf 4 = .ok (.istore 5, 2) := by decide +kernel
theorem dX5_bitsOf_6 : decode cX5_bitsOf 6 = .ok (.iload 5, 2) := by decide +kernel
theorem dX5_bitsOf_8 : decode cX5_bitsOf 8 = .ok (.aload_n 0, 1) := by decide +kernel
theorem dX5_bitsOf_9 : decode cX5_bitsOf 9 = .ok (.getfield 105, 3) := by decide +kernel
theorem dX5_bitsOf_12 : decode cX5_bitsOf 12 = .ok (.if_icmp .ge 47, 3) := by decide +kernel
theorem dX5_bitsOf_15 : decode cX5_bitsOf 15 = .ok (.iload 4, 2) := by decide +kernel
theorem dX5_bitsOf_17 : decode cX5_bitsOf 17 = .ok (.aload_n 0, 1) := by decide +kernel
theorem dX5_bitsOf_18 : decode cX5_bitsOf 18 = .ok (.getfield 13, 3) := by decide +kernel
theorem dX5_bitsOf_21 : decode cX5_bitsOf 21 = .ok (.iload 5, 2) := by decide +kernel
theorem dX5_bitsOf_23 : decode cX5_bitsOf 23 = .ok (.iaload, 1) := by decide +kernel
theorem dX5_bitsOf_24 : decode cX5_bitsOf 24 = .ok (.iload_n 1, 1) := by decide +kernel
theorem dX5_bitsOf_25 : decode cX5_bitsOf 25 = .ok (.if_icmp .ne 24, 3) := by decide +kernel
theorem dX5_bitsOf_28 : decode cX5_bitsOf 28 = .ok (.aload_n 0, 1) := by decide +kernel
theorem dX5_bitsOf_29 : decode cX5_bitsOf 29 = .ok (.iload 5, 2) := by decide +kernel
theorem dX5_bitsOf_31 : decode cX5_bitsOf 31 = .ok (.invokevirtual 129, 3) := by decide +kernel
theorem dX5_bitsOf_34 : decode cX5_bitsOf 34 = .ok (.iload_n 2, 1) := by decide +kernel
theorem dX5_bitsOf_35 : decode cX5_bitsOf 35 = .ok (.iload_n 3, 1) := by decide +kernel
theorem dX5_bitsOf_36 : decode cX5_bitsOf 36 = .ok (.invokestatic 84, 3) := by decide +kernel
theorem dX5_bitsOf_39 : decode cX5_bitsOf 39 = .ok (.ifCond .eq 10, 3) := by decide +kernel
theorem dX5_bitsOf_42 : decode cX5_bitsOf 42 = .ok (.iconst 1, 1) := by decide +kernel
theorem dX5_bitsOf_43 : decode cX5_bitsOf 43 = .ok (.iload 5, 2) := by decide +kernel
theorem dX5_bitsOf_45 : decode cX5_bitsOf 45 = .ok (.ishl, 1) := by decide +kernel
theorem dX5_bitsOf_46 : decode cX5_bitsOf 46 = .ok (.goto 4, 3) := by decide +kernel
theorem dX5_bitsOf_49 : decode cX5_bitsOf 49 = .ok (.iconst 0, 1) := by decide +kernel
theorem dX5_bitsOf_50 : decode cX5_bitsOf 50 = .ok (.ior, 1) := by decide +kernel
theorem dX5_bitsOf_51 : decode cX5_bitsOf 51 = .ok (.istore 4, 2) := by decide +kernel
theorem dX5_bitsOf_53 : decode cX5_bitsOf 53 = .ok (.iinc 5 1, 3) := by decide +kernel
theorem dX5_bitsOf_56 : decode cX5_bitsOf 56 = .ok (.goto (-50), 3) := by decide +kernel
theorem dX5_bitsOf_59 : decode cX5_bitsOf 59 = .ok (.iload 4, 2) := by decide +kernel
theorem dX5_bitsOf_61 : decode cX5_bitsOf 61 = .ok (.ireturn, 1) := by decide +kernel
theorem dX5_keyNow_0 : decode cX5_keyNow 0 = .ok (.iload_n 2, 1) := by decide +kernel
theorem dX5_keyNow_1 : decode cX5_keyNow 1 = .ok (.ifCond .ne 11, 3) := by decide +kernel
theorem dX5_keyNow_4 : decode cX5_keyNow 4 = .ok (.aload_n 0, 1) := by decide +kernel
theorem dX5_keyNow_5 : decode cX5_keyNow 5 = .ok (.iload_n 1, 1) := by decide +kernel
theorem dX5_keyNow_6 : decode cX5_keyNow 6 = .ok (.invokevirtual 119, 3) := by decide +kernel
theorem dX5_keyNow_9 : decode cX5_keyNow 9 = .ok (.goto 40, 3) := by decide +kernel
theorem dX5_keyNow_12 : decode cX5_keyNow 12 = .ok (.iload_n 2, 1) := by decide +kernel
theorem dX5_keyNow_13 : decode cX5_keyNow 13 = .ok (.iconst 1, 1) := by decide +kernel
theorem dX5_keyNow_14 : decode cX5_keyNow 14 = .ok (.if_icmp .ne 13, 3) := by decide +kernel
theorem dX5_keyNow_17 : decode cX5_keyNow 17 = .ok (.aload_n 0, 1) := by decide +kernel
theorem dX5_keyNow_18 : decode cX5_keyNow 18 = .ok (.iload_n 1, 1) := by decide +kernel
theorem dX5_keyNow_19 : decode cX5_keyNow 19 = .ok (.iconst 2, 1) := by decide +kernel
theorem dX5_keyNow_20 : decode cX5_keyNow 20 = .ok (.iconst 4, 1) := by decide +kernel
theorem dX5_keyNow_21 : decode cX5_keyNow 21 = .ok (.invokevirtual 154, 3) := by decide +kernel
theorem dX5_keyNow_24 : decode cX5_keyNow 24 = .ok (.goto 25, 3) := by decide +kernel
theorem dX5_keyNow_27 : decode cX5_keyNow 27 = .ok (.iload_n 2, 1) := by decide +kernel
theorem dX5_keyNow_28 : decode cX5_keyNow 28 = .ok (.iconst 2, 1) := by decide +kernel
theorem dX5_keyNow_29 : decode cX5_keyNow 29 = .ok (.if_icmp .ne 13, 3) := by decide +kernel
theorem dX5_keyNow_32 : decode cX5_keyNow 32 = .ok (.aload_n 0, 1) := by decide +kernel
theorem dX5_keyNow_33 : decode cX5_keyNow 33 = .ok (.iload_n 1, 1) := by decide +kernel
theorem dX5_keyNow_34 : decode cX5_keyNow 34 = .ok (.iconst 1, 1) := by decide +kernel
theorem dX5_keyNow_35 : decode cX5_keyNow 35 = .ok (.iconst 1, 1) := by decide +kernel
theorem dX5_keyNow_36 : decode cX5_keyNow 36 = .ok (.invokevirtual 154, 3) := by decide +kernel
theorem dX5_keyNow_39 : decode cX5_keyNow 39 = .ok (.goto 10, 3) := by decide +kernel
theorem dX5_keyNow_42 : decode cX5_keyNow 42 = .ok (.aload_n 0, 1) := by decide +kernel
theorem dX5_keyNow_43 : decode cX5_keyNow 43 = .ok (.iload_n 1, 1) := by decide +kernel
theorem dX5_keyNow_44 : decode cX5_keyNow 44 = .ok (.iconst 4, 1) := by decide +kernel
theorem dX5_keyNow_45 : decode cX5_keyNow 45 = .ok (.iconst 4, 1) := by decide +kernel
theorem dX5_keyNow_46 : decode cX5_keyNow 46 = .ok (.invokevirtual 154, 3) := by decide +kernel
theorem dX5_keyNow_49 : decode cX5_keyNow 49 = .ok (.ireturn, 1) := by decide +kernel
theorem dX5_key_0 : decode cX5_key 0 = .ok (.iload_n 1, 1) := by decide +kernel
theorem dX5_key_1 : decode cX5_key 1 = .ok (.iconst 0, 1) := by decide +kernel
theorem dX5_key_2 : decode cX5_key 2 = .ok (.iconst 3, 1) := by decide +kernel
theorem dX5_key_3 : decode cX5_key 3 = .ok (.invokestatic 84, 3) := by decide +kernel
theorem dX5_key_6 : decode cX5_key 6 = .ok (.ifCond .ne 7, 3) := by decide +kernel
theorem dX5_key_9 : decode cX5_key 9 = .ok (.sipush (-1001), 3) := by decide +kernel
theorem dX5_key_12 : decode cX5_key 12 = .ok (.ireturn, 1) := by decide +kernel
theorem dX5_key_13 : decode cX5_key 13 = .ok (.iload_n 2, 1) := by decide +kernel
theorem dX5_key_14 : decode cX5_key 14 = .ok (.iconst 0, 1) := by decide +kernel
theorem dX5_key_15 : decode cX5_key 15 = .ok (.iconst 3, 1) := by decide +kernel
theorem dX5_key_16 : decode cX5_key 16 = .ok (.invokestatic 84, 3) := by decide +kernel
theorem dX5_key_19 : decode cX5_key 19 = .ok (.ifCond .eq 12, 3) := by decide +kernel
theorem dX5_key_22 : decode cX5_key 22 = .ok (.aload_n 0, 1) := by decide +kernel
theorem dX5_key_23 : decode cX5_key 23 = .ok (.iload_n 1, 1) := by decide +kernel
theorem dX5_key_24 : decode cX5_key 24 = .ok (.iload_n 2, 1) := by decide +kernel
theorem dX5_key_25 : decode cX5_key 25 = .ok (.invokevirtual 158, 3) := by decide +kernel
theorem dX5_key_28 : decode cX5_key 28 = .ok (.goto 6, 3) := by decide +kernel
theorem dX5_key_31 : decode cX5_key 31 = .ok (.sipush (-1002), 3) := by decide +kernel
theorem dX5_key_34 : decode cX5_key 34 = .ok (.ireturn, 1) := by decide +kernel
theorem dX5_isFlow_0 : decode cX5_isFlow 0 = .ok (.iload_n 0, 1) := by decide +kernel
theorem dX5_isFlow_1 : decode cX5_isFlow 1 = .ok (.iconst 0, 1) := by decide +kernel
theorem dX5_isFlow_2 : decode cX5_isFlow 2 = .ok (.bipush 11, 2) := by decide +kernel
theorem dX5_isFlow_4 : decode cX5_isFlow 4 = .ok (.invokestatic 84, 3) := by decide +kernel
theorem dX5_isFlow_7 : decode cX5_isFlow 7 = .ok (.ireturn, 1) := by decide +kernel
theorem dX5_wayOf_0 : decode cX5_wayOf 0 = .ok (.aload_n 0, 1) := by decide +kernel
theorem dX5_wayOf_1 : decode cX5_wayOf 1 = .ok (.iload_n 1, 1) := by decide +kernel
theorem dX5_wayOf_2 : decode cX5_wayOf 2 = .ok (.iconst 4, 1) := by decide +kernel
theorem dX5_wayOf_3 : decode cX5_wayOf 3 = .ok (.irem, 1) := by decide +kernel
theorem dX5_wayOf_4 : decode cX5_wayOf 4 = .ok (.iconst 4, 1) := by decide +kernel
theorem dX5_wayOf_5 : decode cX5_wayOf 5 = .ok (.iconst 4, 1) := by decide +kernel
theorem dX5_wayOf_6 : decode cX5_wayOf 6 = .ok (.invokevirtual 154, 3) := by decide +kernel
theorem dX5_wayOf_9 : decode cX5_wayOf 9 = .ok (.istore_n 2, 1) := by decide +kernel
theorem dX5_wayOf_10 : decode cX5_wayOf 10 = .ok (.iconst 0, 1) := by decide +kernel
theorem dX5_wayOf_11 : decode cX5_wayOf 11 = .ok (.istore_n 3, 1) := by decide +kernel
theorem dX5_wayOf_12 : decode cX5_wayOf 12 = .ok (.iconst 0, 1) := by decide +kernel
theorem dX5_wayOf_13 : decode cX5_wayOf 13 = .ok (.istore 4, 2) := by decide +kernel
theorem dX5_wayOf_15 : decode cX5_wayOf 15 = .ok (.iload 4, 2) := by decide +kernel
theorem dX5_wayOf_17 : decode cX5_wayOf 17 = .ok (.bipush 6, 2) := by decide +kernel
theorem dX5_wayOf_19 : decode cX5_wayOf 19 = .ok (.if_icmp .ge 18, 3) := by decide +kernel
theorem dX5_wayOf_22 : decode cX5_wayOf 22 = .ok (.iload_n 3, 1) := by decide +kernel
theorem dX5_wayOf_23 : decode cX5_wayOf 23 = .ok (.iload_n 2, 1) := by decide +kernel
theorem dX5_wayOf_24 : decode cX5_wayOf 24 = .ok (.iload 4, 2) := by decide +kernel
theorem dX5_wayOf_26 : decode cX5_wayOf 26 = .ok (.ishr, 1) := by decide +kernel
theorem dX5_wayOf_27 : decode cX5_wayOf 27 = .ok (.iconst 1, 1) := by decide +kernel
theorem dX5_wayOf_28 : decode cX5_wayOf 28 = .ok (.iand, 1) := by decide +kernel
theorem dX5_wayOf_29 : decode cX5_wayOf 29 = .ok (.iadd, 1) := by decide +kernel
theorem dX5_wayOf_30 : decode cX5_wayOf 30 = .ok (.istore_n 3, 1) := by decide +kernel
theorem dX5_wayOf_31 : decode cX5_wayOf 31 = .ok (.iinc 4 1, 3) := by decide +kernel
theorem dX5_wayOf_34 : decode cX5_wayOf 34 = .ok (.goto (-19), 3) := by decide +kernel
theorem dX5_wayOf_37 : decode cX5_wayOf 37 = .ok (.iload_n 3, 1) := by decide +kernel
theorem dX5_wayOf_38 : decode cX5_wayOf 38 = .ok (.ifCond .ne 5, 3) := by decide +kernel
theorem dX5_wayOf_41 : decode cX5_wayOf 41 = .ok (.iconst (-1), 1) := by decide +kernel
theorem dX5_wayOf_42 : decode cX5_wayOf 42 = .ok (.ireturn, 1) := by decide +kernel
theorem dX5_wayOf_43 : decode cX5_wayOf 43 = .ok (.iload_n 1, 1) := by decide +kernel
theorem dX5_wayOf_44 : decode cX5_wayOf 44 = .ok (.iconst 4, 1) := by decide +kernel
theorem dX5_wayOf_45 : decode cX5_wayOf 45 = .ok (.idiv, 1) := by decide +kernel
theorem dX5_wayOf_46 : decode cX5_wayOf 46 = .ok (.aload_n 0, 1) := by decide +kernel
theorem dX5_wayOf_47 : decode cX5_wayOf 47 = .ok (.getfield 132, 3) := by decide +kernel
theorem dX5_wayOf_50 : decode cX5_wayOf 50 = .ok (.iadd, 1) := by decide +kernel
theorem dX5_wayOf_51 : decode cX5_wayOf 51 = .ok (.iload_n 3, 1) := by decide +kernel
theorem dX5_wayOf_52 : decode cX5_wayOf 52 = .ok (.irem, 1) := by decide +kernel
theorem dX5_wayOf_53 : decode cX5_wayOf 53 = .ok (.istore 4, 2) := by decide +kernel
theorem dX5_wayOf_55 : decode cX5_wayOf 55 = .ok (.iconst 0, 1) := by decide +kernel
theorem dX5_wayOf_56 : decode cX5_wayOf 56 = .ok (.istore 5, 2) := by decide +kernel
theorem dX5_wayOf_58 : decode cX5_wayOf 58 = .ok (.iload_n 2, 1) := by decide +kernel
theorem dX5_wayOf_59 : decode cX5_wayOf 59 = .ok (.iload 5, 2) := by decide +kernel
theorem dX5_wayOf_61 : decode cX5_wayOf 61 = .ok (.ishr, 1) := by decide +kernel
theorem dX5_wayOf_62 : decode cX5_wayOf 62 = .ok (.iconst 1, 1) := by decide +kernel
theorem dX5_wayOf_63 : decode cX5_wayOf 63 = .ok (.iand, 1) := by decide +kernel
theorem dX5_wayOf_64 : decode cX5_wayOf 64 = .ok (.ifCond .eq 8, 3) := by decide +kernel
theorem dX5_wayOf_67 : decode cX5_wayOf 67 = .ok (.iload 4, 2) := by decide +kernel
theorem dX5_wayOf_69 : decode cX5_wayOf 69 = .ok (.ifCond .le 20, 3) := by decide +kernel
theorem dX5_wayOf_72 : decode cX5_wayOf 72 = .ok (.iload 4, 2) := by decide +kernel
theorem dX5_wayOf_74 : decode cX5_wayOf 74 = .ok (.iload_n 2, 1) := by decide +kernel
theorem dX5_wayOf_75 : decode cX5_wayOf 75 = .ok (.iload 5, 2) := by decide +kernel
theorem dX5_wayOf_77 : decode cX5_wayOf 77 = .ok (.ishr, 1) := by decide +kernel
theorem dX5_wayOf_78 : decode cX5_wayOf 78 = .ok (.iconst 1, 1) := by decide +kernel
theorem dX5_wayOf_79 : decode cX5_wayOf 79 = .ok (.iand, 1) := by decide +kernel
theorem dX5_wayOf_80 : decode cX5_wayOf 80 = .ok (.isub, 1) := by decide +kernel
theorem dX5_wayOf_81 : decode cX5_wayOf 81 = .ok (.istore 4, 2) := by decide +kernel
theorem dX5_wayOf_83 : decode cX5_wayOf 83 = .ok (.iinc 5 1, 3) := by decide +kernel
theorem dX5_wayOf_86 : decode cX5_wayOf 86 = .ok (.goto (-28), 3) := by decide +kernel
theorem dX5_wayOf_89 : decode cX5_wayOf 89 = .ok (.iload 5, 2) := by decide +kernel
theorem dX5_wayOf_91 : decode cX5_wayOf 91 = .ok (.ireturn, 1) := by decide +kernel
theorem dX5_way_0 : decode cX5_way 0 = .ok (.iload_n 1, 1) := by decide +kernel
theorem dX5_way_1 : decode cX5_way 1 = .ok (.invokestatic 161, 3) := by decide +kernel
theorem dX5_way_4 : decode cX5_way 4 = .ok (.ifCond .eq 11, 3) := by decide +kernel
theorem dX5_way_7 : decode cX5_way 7 = .ok (.aload_n 0, 1) := by decide +kernel
theorem dX5_way_8 : decode cX5_way 8 = .ok (.iload_n 1, 1) := by decide +kernel
theorem dX5_way_9 : decode cX5_way 9 = .ok (.invokevirtual 164, 3) := by decide +kernel
theorem dX5_way_12 : decode cX5_way 12 = .ok (.goto 6, 3) := by decide +kernel
theorem dX5_way_15 : decode cX5_way 15 = .ok (.sipush (-1001), 3) := by decide +kernel
theorem dX5_way_18 : decode cX5_way 18 = .ok (.ireturn, 1) := by decide +kernel
theorem dX5_lay_0 : decode cX5_lay 0 = .ok (.aload_n 0, 1) := by decide +kernel
theorem dX5_lay_1 : decode cX5_lay 1 = .ok (.getfield 45, 3) := by decide +kernel
theorem dX5_lay_4 : decode cX5_lay 4 = .ok (.bipush 24, 2) := by decide +kernel
theorem dX5_lay_6 : decode cX5_lay 6 = .ok (.iload_n 1, 1) := by decide +kernel
theorem dX5_lay_7 : decode cX5_lay 7 = .ok (.imul, 1) := by decide +kernel
theorem dX5_lay_8 : decode cX5_lay 8 = .ok (.aload_n 0, 1) := by decide +kernel
theorem dX5_lay_9 : decode cX5_lay 9 = .ok (.getfield 51, 3) := by decide +kernel
theorem dX5_lay_12 : decode cX5_lay 12 = .ok (.iload_n 1, 1) := by decide +kernel
theorem dX5_lay_13 : decode cX5_lay 13 = .ok (.iaload, 1) := by decide +kernel
theorem dX5_lay_14 : decode cX5_lay 14 = .ok (.iadd, 1) := by decide +kernel
theorem dX5_lay_15 : decode cX5_lay 15 = .ok (.iload_n 2, 1) := by decide +kernel
theorem dX5_lay_16 : decode cX5_lay 16 = .ok (.iastore, 1) := by decide +kernel
theorem dX5_lay_17 : decode cX5_lay 17 = .ok (.aload_n 0, 1) := by decide +kernel
theorem dX5_lay_18 : decode cX5_lay 18 = .ok (.getfield 48, 3) := by decide +kernel
theorem dX5_lay_21 : decode cX5_lay 21 = .ok (.bipush 24, 2) := by decide +kernel
theorem dX5_lay_23 : decode cX5_lay 23 = .ok (.iload_n 1, 1) := by decide +kernel
theorem dX5_lay_24 : decode cX5_lay 24 = .ok (.imul, 1) := by decide +kernel
theorem dX5_lay_25 : decode cX5_lay 25 = .ok (.aload_n 0, 1) := by decide +kernel
theorem dX5_lay_26 : decode cX5_lay 26 = .ok (.getfield 51, 3) := by decide +kernel
theorem dX5_lay_29 : decode cX5_lay 29 = .ok (.iload_n 1, 1) := by decide +kernel
theorem dX5_lay_30 : decode cX5_lay 30 = .ok (.iaload, 1) := by decide +kernel
theorem dX5_lay_31 : decode cX5_lay 31 = .ok (.iadd, 1) := by decide +kernel
theorem dX5_lay_32 : decode cX5_lay 32 = .ok (.iload_n 3, 1) := by decide +kernel
theorem dX5_lay_33 : decode cX5_lay 33 = .ok (.iastore, 1) := by decide +kernel
theorem dX5_lay_34 : decode cX5_lay 34 = .ok (.aload_n 0, 1) := by decide +kernel
theorem dX5_lay_35 : decode cX5_lay 35 = .ok (.getfield 51, 3) := by decide +kernel
theorem dX5_lay_38 : decode cX5_lay 38 = .ok (.iload_n 1, 1) := by decide +kernel
theorem dX5_lay_39 : decode cX5_lay 39 = .ok (.dup2, 1) := by decide +kernel
theorem dX5_lay_40 : decode cX5_lay 40 = .ok (.iaload, 1) := by decide +kernel
theorem dX5_lay_41 : decode cX5_lay 41 = .ok (.iconst 1, 1) := by decide +kernel
theorem dX5_lay_42 : decode cX5_lay 42 = .ok (.iadd, 1) := by decide +kernel
theorem dX5_lay_43 : decode cX5_lay 43 = .ok (.iastore, 1) := by decide +kernel
theorem dX5_lay_44 : decode cX5_lay 44 = .ok (.return_, 1) := by decide +kernel
theorem dX5_comes_0 : decode cX5_comes 0 = .ok (.iload_n 1, 1) := by decide +kernel
theorem dX5_comes_1 : decode cX5_comes 1 = .ok (.iconst (-1), 1) := by decide +kernel
theorem dX5_comes_2 : decode cX5_comes 2 = .ok (.if_icmp .eq 14, 3) := by decide +kernel
theorem dX5_comes_5 : decode cX5_comes 5 = .ok (.aload_n 0, 1) := by decide +kernel
theorem dX5_comes_6 : decode cX5_comes 6 = .ok (.getfield 51, 3) := by decide +kernel
theorem dX5_comes_9 : decode cX5_comes 9 = .ok (.iload_n 1, 1) := by decide +kernel
theorem dX5_comes_10 : decode cX5_comes 10 = .ok (.iaload, 1) := by decide +kernel
theorem dX5_comes_11 : decode cX5_comes 11 = .ok (.bipush 8, 2) := by decide +kernel
theorem dX5_comes_13 : decode cX5_comes 13 = .ok (.if_icmp .lt 15, 3) := by decide +kernel
theorem dX5_comes_16 : decode cX5_comes 16 = .ok (.aload_n 0, 1) := by decide +kernel
theorem dX5_comes_17 : decode cX5_comes 17 = .ok (.getfield 72, 3) := by decide +kernel
theorem dX5_comes_20 : decode cX5_comes 20 = .ok (.iload_n 2, 1) := by decide +kernel
theorem dX5_comes_21 : decode cX5_comes 21 = .ok (.dup2, 1) := by decide +kernel
theorem dX5_comes_22 : decode cX5_comes 22 = .ok (.iaload, 1) := by decide +kernel
theorem dX5_comes_23 : decode cX5_comes 23 = .ok (.iconst 1, 1) := by decide +kernel
theorem dX5_comes_24 : decode cX5_comes 24 = .ok (.iadd, 1) := by decide +kernel
theorem dX5_comes_25 : decode cX5_comes 25 = .ok (.iastore, 1) := by decide +kernel
theorem dX5_comes_26 : decode cX5_comes 26 = .ok (.iconst 2, 1) := by decide +kernel
theorem dX5_comes_27 : decode cX5_comes 27 = .ok (.ireturn, 1) := by decide +kernel
theorem dX5_comes_28 : decode cX5_comes 28 = .ok (.aload_n 0, 1) := by decide +kernel
theorem dX5_comes_29 : decode cX5_comes 29 = .ok (.iload_n 1, 1) := by decide +kernel
theorem dX5_comes_30 : decode cX5_comes 30 = .ok (.iload_n 2, 1) := by decide +kernel
theorem dX5_comes_31 : decode cX5_comes 31 = .ok (.iload_n 3, 1) := by decide +kernel
theorem dX5_comes_32 : decode cX5_comes 32 = .ok (.invokevirtual 167, 3) := by decide +kernel
theorem dX5_comes_35 : decode cX5_comes 35 = .ok (.iconst 0, 1) := by decide +kernel
theorem dX5_comes_36 : decode cX5_comes 36 = .ok (.ireturn, 1) := by decide +kernel
theorem dX5_holds_0 : decode cX5_holds 0 = .ok (.aload_n 0, 1) := by decide +kernel
theorem dX5_holds_1 : decode cX5_holds 1 = .ok (.getfield 60, 3) := by decide +kernel
theorem dX5_holds_4 : decode cX5_holds 4 = .ok (.iload_n 1, 1) := by decide +kernel
theorem dX5_holds_5 : decode cX5_holds 5 = .ok (.iaload, 1) := by decide +kernel
theorem dX5_holds_6 : decode cX5_holds 6 = .ok (.bipush 8, 2) := by decide +kernel
theorem dX5_holds_8 : decode cX5_holds 8 = .ok (.if_icmp .ne 15, 3) := by decide +kernel
theorem dX5_holds_11 : decode cX5_holds 11 = .ok (.aload_n 0, 1) := by decide +kernel
theorem dX5_holds_12 : decode cX5_holds 12 = .ok (.getfield 72, 3) := by decide +kernel
theorem dX5_holds_15 : decode cX5_holds 15 = .ok (.iload_n 1, 1) := by decide +kernel
theorem dX5_holds_16 : decode cX5_holds 16 = .ok (.dup2, 1) := by decide +kernel
theorem dX5_holds_17 : decode cX5_holds 17 = .ok (.iaload, 1) := by decide +kernel
theorem dX5_holds_18 : decode cX5_holds 18 = .ok (.iconst 1, 1) := by decide +kernel
theorem dX5_holds_19 : decode cX5_holds 19 = .ok (.iadd, 1) := by decide +kernel
theorem dX5_holds_20 : decode cX5_holds 20 = .ok (.iastore, 1) := by decide +kernel
theorem dX5_holds_21 : decode cX5_holds 21 = .ok (.iconst 2, 1) := by decide +kernel
theorem dX5_holds_22 : decode cX5_holds 22 = .ok (.ireturn, 1) := by decide +kernel
theorem dX5_holds_23 : decode cX5_holds 23 = .ok (.aload_n 0, 1) := by decide +kernel
theorem dX5_holds_24 : decode cX5_holds 24 = .ok (.getfield 63, 3) := by decide +kernel
theorem dX5_holds_27 : decode cX5_holds 27 = .ok (.bipush 8, 2) := by decide +kernel
theorem dX5_holds_29 : decode cX5_holds 29 = .ok (.iload_n 1, 1) := by decide +kernel
theorem dX5_holds_30 : decode cX5_holds 30 = .ok (.imul, 1) := by decide +kernel
theorem dX5_holds_31 : decode cX5_holds 31 = .ok (.aload_n 0, 1) := by decide +kernel
theorem dX5_holds_32 : decode cX5_holds 32 = .ok (.getfield 60, 3) := by decide +kernel
theorem dX5_holds_35 : decode cX5_holds 35 = .ok (.iload_n 1, 1) := by decide +kernel
theorem dX5_holds_36 : decode cX5_holds 36 = .ok (.iaload, 1) := by decide +kernel
theorem dX5_holds_37 : decode cX5_holds 37 = .ok (.iadd, 1) := by decide +kernel
theorem dX5_holds_38 : decode cX5_holds 38 = .ok (.iload_n 2, 1) := by decide +kernel
theorem dX5_holds_39 : decode cX5_holds 39 = .ok (.iastore, 1) := by decide +kernel
theorem dX5_holds_40 : decode cX5_holds 40 = .ok (.aload_n 0, 1) := by decide +kernel
theorem dX5_holds_41 : decode cX5_holds 41 = .ok (.getfield 60, 3) := by decide +kernel
theorem dX5_holds_44 : decode cX5_holds 44 = .ok (.iload_n 1, 1) := by decide +kernel
theorem dX5_holds_45 : decode cX5_holds 45 = .ok (.dup2, 1) := by decide +kernel
theorem dX5_holds_46 : decode cX5_holds 46 = .ok (.iaload, 1) := by decide +kernel
theorem dX5_holds_47 : decode cX5_holds 47 = .ok (.iconst 1, 1) := by decide +kernel
theorem dX5_holds_48 : decode cX5_holds 48 = .ok (.iadd, 1) := by decide +kernel
theorem dX5_holds_49 : decode cX5_holds 49 = .ok (.iastore, 1) := by decide +kernel
theorem dX5_holds_50 : decode cX5_holds 50 = .ok (.iconst 1, 1) := by decide +kernel
theorem dX5_holds_51 : decode cX5_holds 51 = .ok (.ireturn, 1) := by decide +kernel
theorem dX5_hasLetter_0 : decode cX5_hasLetter 0 = .ok (.iconst 0, 1) := by decide +kernel
theorem dX5_hasLetter_1 : decode cX5_hasLetter 1 = .ok (.istore_n 3, 1) := by decide +kernel
theorem dX5_hasLetter_2 : decode cX5_hasLetter 2 = .ok (.bipush 24, 2) := by decide +kernel
theorem dX5_hasLetter_4 : decode cX5_hasLetter 4 = .ok (.iload_n 1, 1) := by decide +kernel
theorem dX5_hasLetter_5 : decode cX5_hasLetter 5 = .ok (.imul, 1) := by decide +kernel
theorem dX5_hasLetter_6 : decode cX5_hasLetter 6 = .ok (.istore 4, 2) := by decide +kernel
theorem dX5_hasLetter_8 : decode cX5_hasLetter 8 = .ok (.iload 4, 2) := by decide +kernel
theorem dX5_hasLetter_10 : decode cX5_hasLetter 10 = .ok (.bipush 24, 2) := by decide +kernel
theorem dX5_hasLetter_12 : decode cX5_hasLetter 12 = .ok (.iload_n 1, 1) := by decide +kernel
theorem dX5_hasLetter_13 : decode cX5_hasLetter 13 = .ok (.imul, 1) := by decide +kernel
theorem dX5_hasLetter_14 : decode cX5_hasLetter 14 = .ok (.aload_n 0, 1) := by decide +kernel
theorem dX5_hasLetter_15 : decode cX5_hasLetter 15 = .ok (.getfield 51, 3) := by decide +kernel
theorem dX5_hasLetter_18 : decode cX5_hasLetter 18 = .ok (.iload_n 1, 1) := by decide +kernel
theorem dX5_hasLetter_19 : decode cX5_hasLetter 19 = .ok (.iaload, 1) := by decide +kernel
theorem dX5_hasLetter_20 : decode cX5_hasLetter 20 = .ok (.iadd, 1) := by decide +kernel
theorem dX5_hasLetter_21 : decode cX5_hasLetter 21 = .ok (.if_icmp .ge 40, 3) := by decide +kernel
theorem dX5_hasLetter_24 : decode cX5_hasLetter 24 = .ok (.iload_n 3, 1) := by decide +kernel
theorem dX5_hasLetter_25 : decode cX5_hasLetter 25 = .ok (.ifCond .ne 24, 3) := by decide +kernel
theorem dX5_hasLetter_28 : decode cX5_hasLetter 28 = .ok (.aload_n 0, 1) := by decide +kernel
theorem dX5_hasLetter_29 : decode cX5_hasLetter 29 = .ok (.getfield 45, 3) := by decide +kernel
theorem dX5_hasLetter_32 : decode cX5_hasLetter 32 = .ok (.iload 4, 2) := by decide +kernel
theorem dX5_hasLetter_34 : decode cX5_hasLetter 34 = .ok (.iaload, 1) := by decide +kernel
theorem dX5_hasLetter_35 : decode cX5_hasLetter 35 = .ok (.iload_n 2, 1) := by decide +kernel
theorem dX5_hasLetter_36 : decode cX5_hasLetter 36 = .ok (.if_icmp .ne 17, 3) := by decide +kernel
theorem dX5_hasLetter_39 : decode cX5_hasLetter 39 = .ok (.aload_n 0, 1) := by decide +kernel
theorem dX5_hasLetter_40 : decode cX5_hasLetter 40 = .ok (.getfield 48, 3) := by decide +kernel
theorem dX5_hasLetter_43 : decode cX5_hasLetter 43 = .ok (.iload 4, 2) := by decide +kernel
theorem dX5_hasLetter_45 : decode cX5_hasLetter 45 = .ok (.iaload, 1) := by decide +kernel
theorem dX5_hasLetter_46 : decode cX5_hasLetter 46 = .ok (.ifCond .le 7, 3) := by decide +kernel
theorem dX5_hasLetter_49 : decode cX5_hasLetter 49 = .ok (.iconst 1, 1) := by decide +kernel
theorem dX5_hasLetter_50 : decode cX5_hasLetter 50 = .ok (.goto 4, 3) := by decide +kernel
theorem dX5_hasLetter_53 : decode cX5_hasLetter 53 = .ok (.iconst 0, 1) := by decide +kernel
theorem dX5_hasLetter_54 : decode cX5_hasLetter 54 = .ok (.istore_n 3, 1) := by decide +kernel
theorem dX5_hasLetter_55 : decode cX5_hasLetter 55 = .ok (.iinc 4 1, 3) := by decide +kernel
theorem dX5_hasLetter_58 : decode cX5_hasLetter 58 = .ok (.goto (-50), 3) := by decide +kernel
theorem dX5_hasLetter_61 : decode cX5_hasLetter 61 = .ok (.iload_n 3, 1) := by decide +kernel
theorem dX5_hasLetter_62 : decode cX5_hasLetter 62 = .ok (.ireturn, 1) := by decide +kernel
theorem dX5_sendNow_0 : decode cX5_sendNow 0 = .ok (.aload_n 0, 1) := by decide +kernel
theorem dX5_sendNow_1 : decode cX5_sendNow 1 = .ok (.getfield 66, 3) := by decide +kernel
theorem dX5_sendNow_4 : decode cX5_sendNow 4 = .ok (.iload_n 1, 1) := by decide +kernel
theorem dX5_sendNow_5 : decode cX5_sendNow 5 = .ok (.dup2, 1) := by decide +kernel
theorem dX5_sendNow_6 : decode cX5_sendNow 6 = .ok (.iaload, 1) := by decide +kernel
theorem dX5_sendNow_7 : decode cX5_sendNow 7 = .ok (.iconst 1, 1) := by decide +kernel
theorem dX5_sendNow_8 : decode cX5_sendNow 8 = .ok (.iadd, 1) := by decide +kernel
theorem dX5_sendNow_9 : decode cX5_sendNow 9 = .ok (.iastore, 1) := by decide +kernel
theorem dX5_sendNow_10 : decode cX5_sendNow 10 = .ok (.aload_n 0, 1) := by decide +kernel
theorem dX5_sendNow_11 : decode cX5_sendNow 11 = .ok (.getfield 57, 3) := by decide +kernel
theorem dX5_sendNow_14 : decode cX5_sendNow 14 = .ok (.iload_n 1, 1) := by decide +kernel
theorem dX5_sendNow_15 : decode cX5_sendNow 15 = .ok (.baload, 1) := by decide +kernel
theorem dX5_sendNow_16 : decode cX5_sendNow 16 = .ok (.ifCond .eq 15, 3) := by decide +kernel
theorem dX5_sendNow_19 : decode cX5_sendNow 19 = .ok (.aload_n 0, 1) := by decide +kernel
theorem dX5_sendNow_20 : decode cX5_sendNow 20 = .ok (.iload_n 1, 1) := by decide +kernel
theorem dX5_sendNow_21 : decode cX5_sendNow 21 = .ok (.aload_n 0, 1) := by decide +kernel
theorem dX5_sendNow_22 : decode cX5_sendNow 22 = .ok (.getfield 66, 3) := by decide +kernel
theorem dX5_sendNow_25 : decode cX5_sendNow 25 = .ok (.iload_n 1, 1) := by decide +kernel
theorem dX5_sendNow_26 : decode cX5_sendNow 26 = .ok (.iaload, 1) := by decide +kernel
theorem dX5_sendNow_27 : decode cX5_sendNow 27 = .ok (.invokevirtual 171, 3) := by decide +kernel
theorem dX5_sendNow_30 : decode cX5_sendNow 30 = .ok (.ireturn, 1) := by decide +kernel
theorem dX5_sendNow_31 : decode cX5_sendNow 31 = .ok (.aload_n 0, 1) := by decide +kernel
theorem dX5_sendNow_32 : decode cX5_sendNow 32 = .ok (.iload_n 1, 1) := by decide +kernel
theorem dX5_sendNow_33 : decode cX5_sendNow 33 = .ok (.invokevirtual 164, 3) := by decide +kernel
theorem dX5_sendNow_36 : decode cX5_sendNow 36 = .ok (.istore_n 2, 1) := by decide +kernel
theorem dX5_sendNow_37 : decode cX5_sendNow 37 = .ok (.iload_n 2, 1) := by decide +kernel
theorem dX5_sendNow_38 : decode cX5_sendNow 38 = .ok (.iconst (-1), 1) := by decide +kernel
theorem dX5_sendNow_39 : decode cX5_sendNow 39 = .ok (.if_icmp .ne 15, 3) := by decide +kernel
theorem dX5_sendNow_42 : decode cX5_sendNow 42 = .ok (.aload_n 0, 1) := by decide +kernel
theorem dX5_sendNow_43 : decode cX5_sendNow 43 = .ok (.getfield 72, 3) := by decide +kernel
theorem dX5_sendNow_46 : decode cX5_sendNow 46 = .ok (.iload_n 1, 1) := by decide +kernel
theorem dX5_sendNow_47 : decode cX5_sendNow 47 = .ok (.dup2, 1) := by decide +kernel
theorem dX5_sendNow_48 : decode cX5_sendNow 48 = .ok (.iaload, 1) := by decide +kernel
theorem dX5_sendNow_49 : decode cX5_sendNow 49 = .ok (.iconst 1, 1) := by decide +kernel
theorem dX5_sendNow_50 : decode cX5_sendNow 50 = .ok (.iadd, 1) := by decide +kernel
theorem dX5_sendNow_51 : decode cX5_sendNow 51 = .ok (.iastore, 1) := by decide +kernel
theorem dX5_sendNow_52 : decode cX5_sendNow 52 = .ok (.iconst 2, 1) := by decide +kernel
theorem dX5_sendNow_53 : decode cX5_sendNow 53 = .ok (.ireturn, 1) := by decide +kernel
theorem dX5_sendNow_54 : decode cX5_sendNow 54 = .ok (.aload_n 0, 1) := by decide +kernel
theorem dX5_sendNow_55 : decode cX5_sendNow 55 = .ok (.getfield 54, 3) := by decide +kernel
theorem dX5_sendNow_58 : decode cX5_sendNow 58 = .ok (.iload_n 1, 1) := by decide +kernel
theorem dX5_sendNow_59 : decode cX5_sendNow 59 = .ok (.iaload, 1) := by decide +kernel
theorem dX5_sendNow_60 : decode cX5_sendNow 60 = .ok (.iconst (-1), 1) := by decide +kernel
theorem dX5_sendNow_61 : decode cX5_sendNow 61 = .ok (.if_icmp .eq 58, 3) := by decide +kernel
theorem dX5_sendNow_64 : decode cX5_sendNow 64 = .ok (.aload_n 0, 1) := by decide +kernel
theorem dX5_sendNow_65 : decode cX5_sendNow 65 = .ok (.getfield 54, 3) := by decide +kernel
theorem dX5_sendNow_68 : decode cX5_sendNow 68 = .ok (.iload_n 1, 1) := by decide +kernel
theorem dX5_sendNow_69 : decode cX5_sendNow 69 = .ok (.iaload, 1) := by decide +kernel
theorem dX5_sendNow_70 : decode cX5_sendNow 70 = .ok (.iload_n 2, 1) := by decide +kernel
theorem dX5_sendNow_71 : decode cX5_sendNow 71 = .ok (.if_icmp .eq 48, 3) := by decide +kernel
theorem dX5_sendNow_74 : decode cX5_sendNow 74 = .ok (.aload_n 0, 1) := by decide +kernel
theorem dX5_sendNow_75 : decode cX5_sendNow 75 = .ok (.aload_n 0, 1) := by decide +kernel
theorem dX5_sendNow_76 : decode cX5_sendNow 76 = .ok (.getfield 54, 3) := by decide +kernel
theorem dX5_sendNow_79 : decode cX5_sendNow 79 = .ok (.iload_n 1, 1) := by decide +kernel
theorem dX5_sendNow_80 : decode cX5_sendNow 80 = .ok (.iaload, 1) := by decide +kernel
theorem dX5_sendNow_81 : decode cX5_sendNow 81 = .ok (.iload_n 1, 1) := by decide +kernel
theorem dX5_sendNow_82 : decode cX5_sendNow 82 = .ok (.invokevirtual 174, 3) := by decide +kernel
theorem dX5_sendNow_85 : decode cX5_sendNow 85 = .ok (.ifCond .eq 34, 3) := by decide +kernel
theorem dX5_sendNow_88 : decode cX5_sendNow 88 = .ok (.aload_n 0, 1) := by decide +kernel
theorem dX5_sendNow_89 : decode cX5_sendNow 89 = .ok (.getfield 57, 3) := by decide +kernel
theorem dX5_sendNow_92 : decode cX5_sendNow 92 = .ok (.iload_n 1, 1) := by decide +kernel
theorem dX5_sendNow_93 : decode cX5_sendNow 93 = .ok (.iconst 1, 1) := by decide +kernel
theorem dX5_sendNow_94 : decode cX5_sendNow 94 = .ok (.bastore, 1) := by decide +kernel
theorem dX5_sendNow_95 : decode cX5_sendNow 95 = .ok (.aload_n 0, 1) := by decide +kernel
theorem dX5_sendNow_96 : decode cX5_sendNow 96 = .ok (.aload_n 0, 1) := by decide +kernel
theorem dX5_sendNow_97 : decode cX5_sendNow 97 = .ok (.getfield 54, 3) := by decide +kernel
theorem dX5_sendNow_100 : decode cX5_sendNow 100 = .ok (.iload_n 1, 1) := by decide +kernel
theorem dX5_sendNow_101 : decode cX5_sendNow 101 = .ok (.iaload, 1) := by decide +kernel
theorem dX5_sendNow_102 : decode cX5_sendNow 102 = .ok (.iload_n 1, 1) := by decide +kernel
theorem dX5_sendNow_103 : decode cX5_sendNow 103 = .ok (.iconst 0, 1) := by decide +kernel
theorem dX5_sendNow_104 : decode cX5_sendNow 104 = .ok (.invokevirtual 167, 3) := by decide +kernel
theorem dX5_sendNow_107 : decode cX5_sendNow 107 = .ok (.aload_n 0, 1) := by decide +kernel
theorem dX5_sendNow_108 : decode cX5_sendNow 108 = .ok (.iload_n 1, 1) := by decide +kernel
theorem dX5_sendNow_109 : decode cX5_sendNow 109 = .ok (.aload_n 0, 1) := by decide +kernel
theorem dX5_sendNow_110 : decode cX5_sendNow 110 = .ok (.getfield 66, 3) := by decide +kernel
theorem dX5_sendNow_113 : decode cX5_sendNow 113 = .ok (.iload_n 1, 1) := by decide +kernel
theorem dX5_sendNow_114 : decode cX5_sendNow 114 = .ok (.iaload, 1) := by decide +kernel
theorem dX5_sendNow_115 : decode cX5_sendNow 115 = .ok (.invokevirtual 171, 3) := by decide +kernel
theorem dX5_sendNow_118 : decode cX5_sendNow 118 = .ok (.ireturn, 1) := by decide +kernel
theorem dX5_sendNow_119 : decode cX5_sendNow 119 = .ok (.aload_n 0, 1) := by decide +kernel
theorem dX5_sendNow_120 : decode cX5_sendNow 120 = .ok (.getfield 54, 3) := by decide +kernel
theorem dX5_sendNow_123 : decode cX5_sendNow 123 = .ok (.iload_n 1, 1) := by decide +kernel
theorem dX5_sendNow_124 : decode cX5_sendNow 124 = .ok (.iload_n 2, 1) := by decide +kernel
theorem dX5_sendNow_125 : decode cX5_sendNow 125 = .ok (.iastore, 1) := by decide +kernel
theorem dX5_sendNow_126 : decode cX5_sendNow 126 = .ok (.aload_n 0, 1) := by decide +kernel
theorem dX5_sendNow_127 : decode cX5_sendNow 127 = .ok (.iload_n 2, 1) := by decide +kernel
theorem dX5_sendNow_128 : decode cX5_sendNow 128 = .ok (.iload_n 1, 1) := by decide +kernel
theorem dX5_sendNow_129 : decode cX5_sendNow 129 = .ok (.aload_n 0, 1) := by decide +kernel
theorem dX5_sendNow_130 : decode cX5_sendNow 130 = .ok (.getfield 66, 3) := by decide +kernel
theorem dX5_sendNow_133 : decode cX5_sendNow 133 = .ok (.iload_n 1, 1) := by decide +kernel
theorem dX5_sendNow_134 : decode cX5_sendNow 134 = .ok (.iaload, 1) := by decide +kernel
theorem dX5_sendNow_135 : decode cX5_sendNow 135 = .ok (.invokevirtual 177, 3) := by decide +kernel
theorem dX5_sendNow_138 : decode cX5_sendNow 138 = .ok (.ireturn, 1) := by decide +kernel
theorem dX5_send_0 : decode cX5_send 0 = .ok (.iload_n 1, 1) := by decide +kernel
theorem dX5_send_1 : decode cX5_send 1 = .ok (.invokestatic 161, 3) := by decide +kernel
theorem dX5_send_4 : decode cX5_send 4 = .ok (.ifCond .ne 7, 3) := by decide +kernel
theorem dX5_send_7 : decode cX5_send 7 = .ok (.sipush (-1001), 3) := by decide +kernel
theorem dX5_send_10 : decode cX5_send 10 = .ok (.ireturn, 1) := by decide +kernel
theorem dX5_send_11 : decode cX5_send 11 = .ok (.aload_n 0, 1) := by decide +kernel
theorem dX5_send_12 : decode cX5_send 12 = .ok (.getfield 105, 3) := by decide +kernel
theorem dX5_send_15 : decode cX5_send 15 = .ok (.ifCond .ne 9, 3) := by decide +kernel
theorem dX5_send_18 : decode cX5_send 18 = .ok (.sipush (-1003), 3) := by decide +kernel
theorem dX5_send_21 : decode cX5_send 21 = .ok (.goto 8, 3) := by decide +kernel
theorem dX5_send_24 : decode cX5_send 24 = .ok (.aload_n 0, 1) := by decide +kernel
theorem dX5_send_25 : decode cX5_send 25 = .ok (.iload_n 1, 1) := by decide +kernel
theorem dX5_send_26 : decode cX5_send 26 = .ok (.invokevirtual 180, 3) := by decide +kernel
theorem dX5_send_29 : decode cX5_send 29 = .ok (.ireturn, 1) := by decide +kernel
theorem dX5_answer_0 : decode cX5_answer 0 = .ok (.aload_n 0, 1) := by decide +kernel
theorem dX5_answer_1 : decode cX5_answer 1 = .ok (.getfield 57, 3) := by decide +kernel
theorem dX5_answer_4 : decode cX5_answer 4 = .ok (.iload_n 1, 1) := by decide +kernel
theorem dX5_answer_5 : decode cX5_answer 5 = .ok (.iconst 0, 1) := by decide +kernel
theorem dX5_answer_6 : decode cX5_answer 6 = .ok (.bastore, 1) := by decide +kernel
theorem dX5_answer_7 : decode cX5_answer 7 = .ok (.aload_n 0, 1) := by decide +kernel
theorem dX5_answer_8 : decode cX5_answer 8 = .ok (.dup, 1) := by decide +kernel
theorem dX5_answer_9 : decode cX5_answer 9 = .ok (.getfield 102, 3) := by decide +kernel
theorem dX5_answer_12 : decode cX5_answer 12 = .ok (.iconst 1, 1) := by decide +kernel
theorem dX5_answer_13 : decode cX5_answer 13 = .ok (.iadd, 1) := by decide +kernel
theorem dX5_answer_14 : decode cX5_answer 14 = .ok (.putfield 102, 3) := by decide +kernel
theorem dX5_answer_17 : decode cX5_answer 17 = .ok (.aload_n 0, 1) := by decide +kernel
theorem dX5_answer_18 : decode cX5_answer 18 = .ok (.getfield 54, 3) := by decide +kernel
theorem dX5_answer_21 : decode cX5_answer 21 = .ok (.iload_n 1, 1) := by decide +kernel
theorem dX5_answer_22 : decode cX5_answer 22 = .ok (.aload_n 0, 1) := by decide +kernel
theorem dX5_answer_23 : decode cX5_answer 23 = .ok (.iload_n 1, 1) := by decide +kernel
theorem dX5_answer_24 : decode cX5_answer 24 = .ok (.invokevirtual 164, 3) := by decide +kernel
theorem dX5_answer_27 : decode cX5_answer 27 = .ok (.iastore, 1) := by decide +kernel
theorem dX5_answer_28 : decode cX5_answer 28 = .ok (.aload_n 0, 1) := by decide +kernel
theorem dX5_answer_29 : decode cX5_answer 29 = .ok (.getfield 60, 3) := by decide +kernel
theorem dX5_answer_32 : decode cX5_answer 32 = .ok (.iload_n 1, 1) := by decide +kernel
theorem dX5_answer_33 : decode cX5_answer 33 = .ok (.iaload, 1) := by decide +kernel
theorem dX5_answer_34 : decode cX5_answer 34 = .ok (.istore_n 2, 1) := by decide +kernel
theorem dX5_answer_35 : decode cX5_answer 35 = .ok (.aload_n 0, 1) := by decide +kernel
theorem dX5_answer_36 : decode cX5_answer 36 = .ok (.getfield 60, 3) := by decide +kernel
theorem dX5_answer_39 : decode cX5_answer 39 = .ok (.iload_n 1, 1) := by decide +kernel
theorem dX5_answer_40 : decode cX5_answer 40 = .ok (.iconst 0, 1) := by decide +kernel
theorem dX5_answer_41 : decode cX5_answer 41 = .ok (.iastore, 1) := by decide +kernel
theorem dX5_answer_42 : decode cX5_answer 42 = .ok (.iconst 0, 1) := by decide +kernel
theorem dX5_answer_43 : decode cX5_answer 43 = .ok (.istore_n 3, 1) := by decide +kernel
theorem dX5_answer_44 : decode cX5_answer 44 = .ok (.iload_n 3, 1) := by decide +kernel
theorem dX5_answer_45 : decode cX5_answer 45 = .ok (.iload_n 2, 1) := by decide +kernel
theorem dX5_answer_46 : decode cX5_answer 46 = .ok (.if_icmp .ge 33, 3) := by decide +kernel
theorem dX5_answer_49 : decode cX5_answer 49 = .ok (.aload_n 0, 1) := by decide +kernel
theorem dX5_answer_50 : decode cX5_answer 50 = .ok (.aload_n 0, 1) := by decide +kernel
theorem dX5_answer_51 : decode cX5_answer 51 = .ok (.getfield 54, 3) := by decide +kernel
theorem dX5_answer_54 : decode cX5_answer 54 = .ok (.iload_n 1, 1) := by decide +kernel
theorem dX5_answer_55 : decode cX5_answer 55 = .ok (.iaload, 1) := by decide +kernel
theorem dX5_answer_56 : decode cX5_answer 56 = .ok (.iload_n 1, 1) := by decide +kernel
theorem dX5_answer_57 : decode cX5_answer 57 = .ok (.aload_n 0, 1) := by decide +kernel
theorem dX5_answer_58 : decode cX5_answer 58 = .ok (.getfield 63, 3) := by decide +kernel
theorem dX5_answer_61 : decode cX5_answer 61 = .ok (.bipush 8, 2) := by decide +kernel
theorem dX5_answer_63 : decode cX5_answer 63 = .ok (.iload_n 1, 1) := by decide +kernel
theorem dX5_answer_64 : decode cX5_answer 64 = .ok (.imul, 1) := by decide +kernel
theorem dX5_answer_65 : decode cX5_answer 65 = .ok (.iload_n 3, 1) := by decide +kernel
theorem dX5_answer_66 : decode cX5_answer 66 = .ok (.iadd, 1) := by decide +kernel
theorem dX5_answer_67 : decode cX5_answer 67 = .ok (.iaload, 1) := by decide +kernel
theorem dX5_answer_68 : decode cX5_answer 68 = .ok (.invokevirtual 177, 3) := by decide +kernel
theorem dX5_answer_71 : decode cX5_answer 71 = .ok (.istore 4, 2) := by decide +kernel
theorem dX5_answer_73 : decode cX5_answer 73 = .ok (.iinc 3 1, 3) := by decide +kernel
theorem dX5_answer_76 : decode cX5_answer 76 = .ok (.goto (-32), 3) := by decide +kernel
theorem dX5_answer_79 : decode cX5_answer 79 = .ok (.return_, 1) := by decide +kernel
theorem dX5_empty_0 : decode cX5_empty 0 = .ok (.iconst 0, 1) := by decide +kernel
theorem dX5_empty_1 : decode cX5_empty 1 = .ok (.istore_n 2, 1) := by decide +kernel
theorem dX5_empty_2 : decode cX5_empty 2 = .ok (.bipush 24, 2) := by decide +kernel
theorem dX5_empty_4 : decode cX5_empty 4 = .ok (.iload_n 1, 1) := by decide +kernel
theorem dX5_empty_5 : decode cX5_empty 5 = .ok (.imul, 1) := by decide +kernel
theorem dX5_empty_6 : decode cX5_empty 6 = .ok (.istore_n 3, 1) := by decide +kernel
theorem dX5_empty_7 : decode cX5_empty 7 = .ok (.iload_n 3, 1) := by decide +kernel
theorem dX5_empty_8 : decode cX5_empty 8 = .ok (.bipush 24, 2) := by decide +kernel
theorem dX5_empty_10 : decode cX5_empty 10 = .ok (.iload_n 1, 1) := by decide +kernel
theorem dX5_empty_11 : decode cX5_empty 11 = .ok (.imul, 1) := by decide +kernel
theorem dX5_empty_12 : decode cX5_empty 12 = .ok (.aload_n 0, 1) := by decide +kernel
theorem dX5_empty_13 : decode cX5_empty 13 = .ok (.getfield 51, 3) := by decide +kernel
theorem dX5_empty_16 : decode cX5_empty 16 = .ok (.iload_n 1, 1) := by decide +kernel
theorem dX5_empty_17 : decode cX5_empty 17 = .ok (.iaload, 1) := by decide +kernel
theorem dX5_empty_18 : decode cX5_empty 18 = .ok (.iadd, 1) := by decide +kernel
theorem dX5_empty_19 : decode cX5_empty 19 = .ok (.if_icmp .ge 51, 3) := by decide +kernel
theorem dX5_empty_22 : decode cX5_empty 22 = .ok (.aload_n 0, 1) := by decide +kernel
theorem dX5_empty_23 : decode cX5_empty 23 = .ok (.getfield 48, 3) := by decide +kernel
theorem dX5_empty_26 : decode cX5_empty 26 = .ok (.iload_n 3, 1) := by decide +kernel
theorem dX5_empty_27 : decode cX5_empty 27 = .ok (.iaload, 1) := by decide +kernel
theorem dX5_empty_28 : decode cX5_empty 28 = .ok (.ifCond .le 21, 3) := by decide +kernel
theorem dX5_empty_31 : decode cX5_empty 31 = .ok (.aload_n 0, 1) := by decide +kernel
theorem dX5_empty_32 : decode cX5_empty 32 = .ok (.getfield 72, 3) := by decide +kernel
theorem dX5_empty_35 : decode cX5_empty 35 = .ok (.aload_n 0, 1) := by decide +kernel
theorem dX5_empty_36 : decode cX5_empty 36 = .ok (.getfield 45, 3) := by decide +kernel
theorem dX5_empty_39 : decode cX5_empty 39 = .ok (.iload_n 3, 1) := by decide +kernel
theorem dX5_empty_40 : decode cX5_empty 40 = .ok (.iaload, 1) := by decide +kernel
theorem dX5_empty_41 : decode cX5_empty 41 = .ok (.dup2, 1) := by decide +kernel
theorem dX5_empty_42 : decode cX5_empty 42 = .ok (.iaload, 1) := by decide +kernel
theorem dX5_empty_43 : decode cX5_empty 43 = .ok (.iconst 1, 1) := by decide +kernel
theorem dX5_empty_44 : decode cX5_empty 44 = .ok (.iadd, 1) := by decide +kernel
theorem dX5_empty_45 : decode cX5_empty 45 = .ok (.iastore, 1) := by decide +kernel
theorem dX5_empty_46 : decode cX5_empty 46 = .ok (.goto 18, 3) := by decide +kernel
theorem dX5_empty_49 : decode cX5_empty 49 = .ok (.aload_n 0, 1) := by decide +kernel
theorem dX5_empty_50 : decode cX5_empty 50 = .ok (.getfield 78, 3) := by decide +kernel
theorem dX5_empty_53 : decode cX5_empty 53 = .ok (.iload_n 2, 1) := by decide +kernel
theorem dX5_empty_54 : decode cX5_empty 54 = .ok (.aload_n 0, 1) := by decide +kernel
theorem dX5_empty_55 : decode cX5_empty 55 = .ok (.getfield 45, 3) := by decide +kernel
theorem dX5_empty_58 : decode cX5_empty 58 = .ok (.iload_n 3, 1) := by decide +kernel
theorem dX5_empty_59 : decode cX5_empty 59 = .ok (.iaload, 1) := by decide +kernel
theorem dX5_empty_60 : decode cX5_empty 60 = .ok (.iastore, 1) := by decide +kernel
theorem dX5_empty_61 : decode cX5_empty 61 = .ok (.iinc 2 1, 3) := by decide +kernel
theorem dX5_empty_64 : decode cX5_empty 64 = .ok (.iinc 3 1, 3) := by decide +kernel
theorem dX5_empty_67 : decode cX5_empty 67 = .ok (.goto (-60), 3) := by decide +kernel
theorem dX5_empty_70 : decode cX5_empty 70 = .ok (.aload_n 0, 1) := by decide +kernel
theorem dX5_empty_71 : decode cX5_empty 71 = .ok (.getfield 51, 3) := by decide +kernel
theorem dX5_empty_74 : decode cX5_empty 74 = .ok (.iload_n 1, 1) := by decide +kernel
theorem dX5_empty_75 : decode cX5_empty 75 = .ok (.iconst 0, 1) := by decide +kernel
theorem dX5_empty_76 : decode cX5_empty 76 = .ok (.iastore, 1) := by decide +kernel
theorem dX5_empty_77 : decode cX5_empty 77 = .ok (.iconst 0, 1) := by decide +kernel
theorem dX5_empty_78 : decode cX5_empty 78 = .ok (.istore_n 3, 1) := by decide +kernel
theorem dX5_empty_79 : decode cX5_empty 79 = .ok (.iload_n 3, 1) := by decide +kernel
theorem dX5_empty_80 : decode cX5_empty 80 = .ok (.iload_n 2, 1) := by decide +kernel
theorem dX5_empty_81 : decode cX5_empty 81 = .ok (.if_icmp .ge 19, 3) := by decide +kernel
theorem dX5_empty_84 : decode cX5_empty 84 = .ok (.aload_n 0, 1) := by decide +kernel
theorem dX5_empty_85 : decode cX5_empty 85 = .ok (.aload_n 0, 1) := by decide +kernel
theorem dX5_empty_86 : decode cX5_empty 86 = .ok (.getfield 78, 3) := by decide +kernel
theorem dX5_empty_89 : decode cX5_empty 89 = .ok (.iload_n 3, 1) := by decide +kernel
theorem dX5_empty_90 : decode cX5_empty 90 = .ok (.iaload, 1) := by decide +kernel
theorem dX5_empty_91 : decode cX5_empty 91 = .ok (.invokevirtual 183, 3) := by decide +kernel
theorem dX5_empty_94 : decode cX5_empty 94 = .ok (.iinc 3 1, 3) := by decide +kernel
theorem dX5_empty_97 : decode cX5_empty 97 = .ok (.goto (-18), 3) := by decide +kernel
theorem dX5_empty_100 : decode cX5_empty 100 = .ok (.return_, 1) := by decide +kernel
theorem dX5_flowNow_0 : decode cX5_flowNow 0 = .ok (.iload_n 2, 1) := by decide +kernel
theorem dX5_flowNow_1 : decode cX5_flowNow 1 = .ok (.tableswitch 89 0 5 #[39, 46, 61, 68, 75, 82], 39) := by decide +kernel
theorem dX5_flowNow_40 : decode cX5_flowNow 40 = .ok (.aload_n 0, 1) := by decide +kernel
theorem dX5_flowNow_41 : decode cX5_flowNow 41 = .ok (.getfield 54, 3) := by decide +kernel
theorem dX5_flowNow_44 : decode cX5_flowNow 44 = .ok (.iload_n 1, 1) := by decide +kernel
theorem dX5_flowNow_45 : decode cX5_flowNow 45 = .ok (.iaload, 1) := by decide +kernel
theorem dX5_flowNow_46 : decode cX5_flowNow 46 = .ok (.ireturn, 1) := by decide +kernel
theorem dX5_flowNow_47 : decode cX5_flowNow 47 = .ok (.aload_n 0, 1) := by decide +kernel
theorem dX5_flowNow_48 : decode cX5_flowNow 48 = .ok (.getfield 57, 3) := by decide +kernel
theorem dX5_flowNow_51 : decode cX5_flowNow 51 = .ok (.iload_n 1, 1) := by decide +kernel
theorem dX5_flowNow_52 : decode cX5_flowNow 52 = .ok (.baload, 1) := by decide +kernel
theorem dX5_flowNow_53 : decode cX5_flowNow 53 = .ok (.ifCond .eq 7, 3) := by decide +kernel
theorem dX5_flowNow_56 : decode cX5_flowNow 56 = .ok (.iconst 1, 1) := by decide +kernel
theorem dX5_flowNow_57 : decode cX5_flowNow 57 = .ok (.goto 4, 3) := by decide +kernel
theorem dX5_flowNow_60 : decode cX5_flowNow 60 = .ok (.iconst 0, 1) := by decide +kernel
theorem dX5_flowNow_61 : decode cX5_flowNow 61 = .ok (.ireturn, 1) := by decide +kernel
theorem dX5_flowNow_62 : decode cX5_flowNow 62 = .ok (.aload_n 0, 1) := by decide +kernel
theorem dX5_flowNow_63 : decode cX5_flowNow 63 = .ok (.getfield 60, 3) := by decide +kernel
theorem dX5_flowNow_66 : decode cX5_flowNow 66 = .ok (.iload_n 1, 1) := by decide +kernel
theorem dX5_flowNow_67 : decode cX5_flowNow 67 = .ok (.iaload, 1) := by decide +kernel
theorem dX5_flowNow_68 : decode cX5_flowNow 68 = .ok (.ireturn, 1) := by decide +kernel
theorem dX5_flowNow_69 : decode cX5_flowNow 69 = .ok (.aload_n 0, 1) := by decide +kernel
theorem dX5_flowNow_70 : decode cX5_flowNow 70 = .ok (.getfield 66, 3) := by decide +kernel
theorem dX5_flowNow_73 : decode cX5_flowNow 73 = .ok (.iload_n 1, 1) := by decide +kernel
theorem dX5_flowNow_74 : decode cX5_flowNow 74 = .ok (.iaload, 1) := by decide +kernel
theorem dX5_flowNow_75 : decode cX5_flowNow 75 = .ok (.ireturn, 1) := by decide +kernel
theorem dX5_flowNow_76 : decode cX5_flowNow 76 = .ok (.aload_n 0, 1) := by decide +kernel
theorem dX5_flowNow_77 : decode cX5_flowNow 77 = .ok (.getfield 69, 3) := by decide +kernel
theorem dX5_flowNow_80 : decode cX5_flowNow 80 = .ok (.iload_n 1, 1) := by decide +kernel
theorem dX5_flowNow_81 : decode cX5_flowNow 81 = .ok (.iaload, 1) := by decide +kernel
theorem dX5_flowNow_82 : decode cX5_flowNow 82 = .ok (.ireturn, 1) := by decide +kernel
theorem dX5_flowNow_83 : decode cX5_flowNow 83 = .ok (.aload_n 0, 1) := by decide +kernel
theorem dX5_flowNow_84 : decode cX5_flowNow 84 = .ok (.getfield 72, 3) := by decide +kernel
theorem dX5_flowNow_87 : decode cX5_flowNow 87 = .ok (.iload_n 1, 1) := by decide +kernel
theorem dX5_flowNow_88 : decode cX5_flowNow 88 = .ok (.iaload, 1) := by decide +kernel
theorem dX5_flowNow_89 : decode cX5_flowNow 89 = .ok (.ireturn, 1) := by decide +kernel
theorem dX5_flowNow_90 : decode cX5_flowNow 90 = .ok (.aload_n 0, 1) := by decide +kernel
theorem dX5_flowNow_91 : decode cX5_flowNow 91 = .ok (.getfield 75, 3) := by decide +kernel
theorem dX5_flowNow_94 : decode cX5_flowNow 94 = .ok (.iload_n 1, 1) := by decide +kernel
theorem dX5_flowNow_95 : decode cX5_flowNow 95 = .ok (.iaload, 1) := by decide +kernel
theorem dX5_flowNow_96 : decode cX5_flowNow 96 = .ok (.ireturn, 1) := by decide +kernel
theorem dX5_flow_0 : decode cX5_flow 0 = .ok (.iload_n 1, 1) := by decide +kernel
theorem dX5_flow_1 : decode cX5_flow 1 = .ok (.invokestatic 161, 3) := by decide +kernel
theorem dX5_flow_4 : decode cX5_flow 4 = .ok (.ifCond .ne 7, 3) := by decide +kernel
theorem dX5_flow_7 : decode cX5_flow 7 = .ok (.sipush (-1001), 3) := by decide +kernel
theorem dX5_flow_10 : decode cX5_flow 10 = .ok (.ireturn, 1) := by decide +kernel
theorem dX5_flow_11 : decode cX5_flow 11 = .ok (.iload_n 2, 1) := by decide +kernel
theorem dX5_flow_12 : decode cX5_flow 12 = .ok (.iconst 0, 1) := by decide +kernel
theorem dX5_flow_13 : decode cX5_flow 13 = .ok (.bipush 6, 2) := by decide +kernel
theorem dX5_flow_15 : decode cX5_flow 15 = .ok (.invokestatic 84, 3) := by decide +kernel
theorem dX5_flow_18 : decode cX5_flow 18 = .ok (.ifCond .eq 12, 3) := by decide +kernel
theorem dX5_flow_21 : decode cX5_flow 21 = .ok (.aload_n 0, 1) := by decide +kernel
theorem dX5_flow_22 : decode cX5_flow 22 = .ok (.iload_n 1, 1) := by decide +kernel
theorem dX5_flow_23 : decode cX5_flow 23 = .ok (.iload_n 2, 1) := by decide +kernel
theorem dX5_flow_24 : decode cX5_flow 24 = .ok (.invokevirtual 186, 3) := by decide +kernel
theorem dX5_flow_27 : decode cX5_flow 27 = .ok (.goto 6, 3) := by decide +kernel
theorem dX5_flow_30 : decode cX5_flow 30 = .ok (.sipush (-1002), 3) := by decide +kernel
theorem dX5_flow_33 : decode cX5_flow 33 = .ok (.ireturn, 1) := by decide +kernel
theorem dX5_hearLess_0 : decode cX5_hearLess 0 = .ok (.iconst 0, 1) := by decide +kernel
theorem dX5_hearLess_1 : decode cX5_hearLess 1 = .ok (.istore_n 1, 1) := by decide +kernel
theorem dX5_hearLess_2 : decode cX5_hearLess 2 = .ok (.iload_n 1, 1) := by decide +kernel
theorem dX5_hearLess_3 : decode cX5_hearLess 3 = .ok (.aload_n 0, 1) := by decide +kernel
theorem dX5_hearLess_4 : decode cX5_hearLess 4 = .ok (.getfield 105, 3) := by decide +kernel
theorem dX5_hearLess_7 : decode cX5_hearLess 7 = .ok (.if_icmp .ge 47, 3) := by decide +kernel
theorem dX5_hearLess_10 : decode cX5_hearLess 10 = .ok (.aload_n 0, 1) := by decide +kernel
theorem dX5_hearLess_11 : decode cX5_hearLess 11 = .ok (.getfield 32, 3) := by decide +kernel
theorem dX5_hearLess_14 : decode cX5_hearLess 14 = .ok (.iload_n 1, 1) := by decide +kernel
theorem dX5_hearLess_15 : decode cX5_hearLess 15 = .ok (.dup2, 1) := by decide +kernel
theorem dX5_hearLess_16 : decode cX5_hearLess 16 = .ok (.iaload, 1) := by decide +kernel
theorem dX5_hearLess_17 : decode cX5_hearLess 17 = .ok (.aload_n 0, 1) := by decide +kernel
theorem dX5_hearLess_18 : decode cX5_hearLess 18 = .ok (.getfield 23, 3) := by decide +kernel
theorem dX5_hearLess_21 : decode cX5_hearLess 21 = .ok (.iload_n 1, 1) := by decide +kernel
theorem dX5_hearLess_22 : decode cX5_hearLess 22 = .ok (.iaload, 1) := by decide +kernel
theorem dX5_hearLess_23 : decode cX5_hearLess 23 = .ok (.ifCond .le 7, 3) := by decide +kernel
theorem dX5_hearLess_26 : decode cX5_hearLess 26 = .ok (.iconst 1, 1) := by decide +kernel
theorem dX5_hearLess_27 : decode cX5_hearLess 27 = .ok (.goto 4, 3) := by decide +kernel
theorem dX5_hearLess_30 : decode cX5_hearLess 30 = .ok (.iconst 0, 1) := by decide +kernel
theorem dX5_hearLess_31 : decode cX5_hearLess 31 = .ok (.iadd, 1) := by decide +kernel
theorem dX5_hearLess_32 : decode cX5_hearLess 32 = .ok (.iastore, 1) := by decide +kernel
theorem dX5_hearLess_33 : decode cX5_hearLess 33 = .ok (.aload_n 0, 1) := by decide +kernel
theorem dX5_hearLess_34 : decode cX5_hearLess 34 = .ok (.getfield 32, 3) := by decide +kernel
theorem dX5_hearLess_37 : decode cX5_hearLess 37 = .ok (.iload_n 1, 1) := by decide +kernel
theorem dX5_hearLess_38 : decode cX5_hearLess 38 = .ok (.iaload, 1) := by decide +kernel
theorem dX5_hearLess_39 : decode cX5_hearLess 39 = .ok (.iconst 4, 1) := by decide +kernel
theorem dX5_hearLess_40 : decode cX5_hearLess 40 = .ok (.if_icmp .ne 8, 3) := by decide +kernel
theorem dX5_hearLess_43 : decode cX5_hearLess 43 = .ok (.aload_n 0, 1) := by decide +kernel
theorem dX5_hearLess_44 : decode cX5_hearLess 44 = .ok (.iload_n 1, 1) := by decide +kernel
theorem dX5_hearLess_45 : decode cX5_hearLess 45 = .ok (.invokevirtual 108, 3) := by decide +kernel
theorem dX5_hearLess_48 : decode cX5_hearLess 48 = .ok (.iinc 1 1, 3) := by decide +kernel
theorem dX5_hearLess_51 : decode cX5_hearLess 51 = .ok (.goto (-49), 3) := by decide +kernel
theorem dX5_hearLess_54 : decode cX5_hearLess 54 = .ok (.aload_n 0, 1) := by decide +kernel
theorem dX5_hearLess_55 : decode cX5_hearLess 55 = .ok (.invokevirtual 138, 3) := by decide +kernel
theorem dX5_hearLess_58 : decode cX5_hearLess 58 = .ok (.return_, 1) := by decide +kernel
theorem dX5_waitMore_0 : decode cX5_waitMore 0 = .ok (.iconst 0, 1) := by decide +kernel
theorem dX5_waitMore_1 : decode cX5_waitMore 1 = .ok (.istore_n 1, 1) := by decide +kernel
theorem dX5_waitMore_2 : decode cX5_waitMore 2 = .ok (.iload_n 1, 1) := by decide +kernel
theorem dX5_waitMore_3 : decode cX5_waitMore 3 = .ok (.aload_n 0, 1) := by decide +kernel
theorem dX5_waitMore_4 : decode cX5_waitMore 4 = .ok (.getfield 105, 3) := by decide +kernel
theorem dX5_waitMore_7 : decode cX5_waitMore 7 = .ok (.if_icmp .ge 43, 3) := by decide +kernel
theorem dX5_waitMore_10 : decode cX5_waitMore 10 = .ok (.aload_n 0, 1) := by decide +kernel
theorem dX5_waitMore_11 : decode cX5_waitMore 11 = .ok (.getfield 35, 3) := by decide +kernel
theorem dX5_waitMore_14 : decode cX5_waitMore 14 = .ok (.iload_n 1, 1) := by decide +kernel
theorem dX5_waitMore_15 : decode cX5_waitMore 15 = .ok (.dup2, 1) := by decide +kernel
theorem dX5_waitMore_16 : decode cX5_waitMore 16 = .ok (.iaload, 1) := by decide +kernel
theorem dX5_waitMore_17 : decode cX5_waitMore 17 = .ok (.aload_n 0, 1) := by decide +kernel
theorem dX5_waitMore_18 : decode cX5_waitMore 18 = .ok (.iload_n 1, 1) := by decide +kernel
theorem dX5_waitMore_19 : decode cX5_waitMore 19 = .ok (.invokevirtual 129, 3) := by decide +kernel
theorem dX5_waitMore_22 : decode cX5_waitMore 22 = .ok (.iconst 1, 1) := by decide +kernel
theorem dX5_waitMore_23 : decode cX5_waitMore 23 = .ok (.if_icmp .le 18, 3) := by decide +kernel
theorem dX5_waitMore_26 : decode cX5_waitMore 26 = .ok (.aload_n 0, 1) := by decide +kernel
theorem dX5_waitMore_27 : decode cX5_waitMore 27 = .ok (.getfield 35, 3) := by decide +kernel
theorem dX5_waitMore_30 : decode cX5_waitMore 30 = .ok (.iload_n 1, 1) := by decide +kernel
theorem dX5_waitMore_31 : decode cX5_waitMore 31 = .ok (.iaload, 1) := by decide +kernel
theorem dX5_waitMore_32 : decode cX5_waitMore 32 = .ok (.bipush 9, 2) := by decide +kernel
theorem dX5_waitMore_34 : decode cX5_waitMore 34 = .ok (.if_icmp .ge 7, 3) := by decide +kernel
theorem dX5_waitMore_37 : decode cX5_waitMore 37 = .ok (.iconst 1, 1) := by decide +kernel
theorem dX5_waitMore_38 : decode cX5_waitMore 38 = .ok (.goto 4, 3) := by decide +kernel
theorem dX5_waitMore_41 : decode cX5_waitMore 41 = .ok (.iconst 0, 1) := by decide +kernel
theorem dX5_waitMore_42 : decode cX5_waitMore 42 = .ok (.iadd, 1) := by decide +kernel
theorem dX5_waitMore_43 : decode cX5_waitMore 43 = .ok (.iastore, 1) := by decide +kernel
theorem dX5_waitMore_44 : decode cX5_waitMore 44 = .ok (.iinc 1 1, 3) := by decide +kernel
theorem dX5_waitMore_47 : decode cX5_waitMore 47 = .ok (.goto (-45), 3) := by decide +kernel
theorem dX5_waitMore_50 : decode cX5_waitMore 50 = .ok (.return_, 1) := by decide +kernel
theorem dX5_goesOut_0 : decode cX5_goesOut 0 = .ok (.aload_n 0, 1) := by decide +kernel
theorem dX5_goesOut_1 : decode cX5_goesOut 1 = .ok (.getfield 51, 3) := by decide +kernel
theorem dX5_goesOut_4 : decode cX5_goesOut 4 = .ok (.iload_n 1, 1) := by decide +kernel
theorem dX5_goesOut_5 : decode cX5_goesOut 5 = .ok (.iaload, 1) := by decide +kernel
theorem dX5_goesOut_6 : decode cX5_goesOut 6 = .ok (.ifCond .ne 5, 3) := by decide +kernel
theorem dX5_goesOut_9 : decode cX5_goesOut 9 = .ok (.iconst 0, 1) := by decide +kernel
theorem dX5_goesOut_10 : decode cX5_goesOut 10 = .ok (.ireturn, 1) := by decide +kernel
theorem dX5_goesOut_11 : decode cX5_goesOut 11 = .ok (.aload_n 0, 1) := by decide +kernel
theorem dX5_goesOut_12 : decode cX5_goesOut 12 = .ok (.getfield 45, 3) := by decide +kernel
theorem dX5_goesOut_15 : decode cX5_goesOut 15 = .ok (.bipush 24, 2) := by decide +kernel
theorem dX5_goesOut_17 : decode cX5_goesOut 17 = .ok (.iload_n 1, 1) := by decide +kernel
theorem dX5_goesOut_18 : decode cX5_goesOut 18 = .ok (.imul, 1) := by decide +kernel
theorem dX5_goesOut_19 : decode cX5_goesOut 19 = .ok (.iaload, 1) := by decide +kernel
theorem dX5_goesOut_20 : decode cX5_goesOut 20 = .ok (.istore_n 2, 1) := by decide +kernel
theorem dX5_goesOut_21 : decode cX5_goesOut 21 = .ok (.aload_n 0, 1) := by decide +kernel
theorem dX5_goesOut_22 : decode cX5_goesOut 22 = .ok (.getfield 48, 3) := by decide +kernel
theorem dX5_goesOut_25 : decode cX5_goesOut 25 = .ok (.bipush 24, 2) := by decide +kernel
theorem dX5_goesOut_27 : decode cX5_goesOut 27 = .ok (.iload_n 1, 1) := by decide +kernel
theorem dX5_goesOut_28 : decode cX5_goesOut 28 = .ok (.imul, 1) := by decide +kernel
theorem dX5_goesOut_29 : decode cX5_goesOut 29 = .ok (.iaload, 1) := by decide +kernel
theorem dX5_goesOut_30 : decode cX5_goesOut 30 = .ok (.istore_n 3, 1) := by decide +kernel
theorem dX5_goesOut_31 : decode cX5_goesOut 31 = .ok (.aload_n 0, 1) := by decide +kernel
theorem dX5_goesOut_32 : decode cX5_goesOut 32 = .ok (.getfield 51, 3) := by decide +kernel
theorem dX5_goesOut_35 : decode cX5_goesOut 35 = .ok (.iload_n 1, 1) := by decide +kernel
theorem dX5_goesOut_36 : decode cX5_goesOut 36 = .ok (.dup2, 1) := by decide +kernel
theorem dX5_goesOut_37 : decode cX5_goesOut 37 = .ok (.iaload, 1) := by decide +kernel
theorem dX5_goesOut_38 : decode cX5_goesOut 38 = .ok (.iconst 1, 1) := by decide +kernel
theorem dX5_goesOut_39 : decode cX5_goesOut 39 = .ok (.isub, 1) := by decide +kernel
theorem dX5_goesOut_40 : decode cX5_goesOut 40 = .ok (.iastore, 1) := by decide +kernel
theorem dX5_goesOut_41 : decode cX5_goesOut 41 = .ok (.bipush 24, 2) := by decide +kernel
theorem dX5_goesOut_43 : decode cX5_goesOut 43 = .ok (.iload_n 1, 1) := by decide +kernel
theorem dX5_goesOut_44 : decode cX5_goesOut 44 = .ok (.imul, 1) := by decide +kernel
theorem dX5_goesOut_45 : decode cX5_goesOut 45 = .ok (.istore 4, 2) := by decide +kernel
theorem dX5_goesOut_47 : decode cX5_goesOut 47 = .ok (.iload 4, 2) := by decide +kernel
theorem dX5_goesOut_49 : decode cX5_goesOut 49 = .ok (.bipush 24, 2) := by decide +kernel
theorem dX5_goesOut_51 : decode cX5_goesOut 51 = .ok (.iload_n 1, 1) := by decide +kernel
theorem dX5_goesOut_52 : decode cX5_goesOut 52 = .ok (.imul, 1) := by decide +kernel
theorem dX5_goesOut_53 : decode cX5_goesOut 53 = .ok (.aload_n 0, 1) := by decide +kernel
theorem dX5_goesOut_54 : decode cX5_goesOut 54 = .ok (.getfield 51, 3) := by decide +kernel
theorem dX5_goesOut_57 : decode cX5_goesOut 57 = .ok (.iload_n 1, 1) := by decide +kernel
theorem dX5_goesOut_58 : decode cX5_goesOut 58 = .ok (.iaload, 1) := by decide +kernel
theorem dX5_goesOut_59 : decode cX5_goesOut 59 = .ok (.iadd, 1) := by decide +kernel
theorem dX5_goesOut_60 : decode cX5_goesOut 60 = .ok (.if_icmp .ge 41, 3) := by decide +kernel
theorem dX5_goesOut_63 : decode cX5_goesOut 63 = .ok (.aload_n 0, 1) := by decide +kernel
theorem dX5_goesOut_64 : decode cX5_goesOut 64 = .ok (.getfield 45, 3) := by decide +kernel
theorem dX5_goesOut_67 : decode cX5_goesOut 67 = .ok (.iload 4, 2) := by decide +kernel
theorem dX5_goesOut_69 : decode cX5_goesOut 69 = .ok (.aload_n 0, 1) := by decide +kernel
theorem dX5_goesOut_70 : decode cX5_goesOut 70 = .ok (.getfield 45, 3) := by decide +kernel
theorem dX5_goesOut_73 : decode cX5_goesOut 73 = .ok (.iload 4, 2) := by decide +kernel
theorem dX5_goesOut_75 : decode cX5_goesOut 75 = .ok (.iconst 1, 1) := by decide +kernel
theorem dX5_goesOut_76 : decode cX5_goesOut 76 = .ok (.iadd, 1) := by decide +kernel
theorem dX5_goesOut_77 : decode cX5_goesOut 77 = .ok (.iaload, 1) := by decide +kernel
theorem dX5_goesOut_78 : decode cX5_goesOut 78 = .ok (.iastore, 1) := by decide +kernel
theorem dX5_goesOut_79 : decode cX5_goesOut 79 = .ok (.aload_n 0, 1) := by decide +kernel
theorem dX5_goesOut_80 : decode cX5_goesOut 80 = .ok (.getfield 48, 3) := by decide +kernel
theorem dX5_goesOut_83 : decode cX5_goesOut 83 = .ok (.iload 4, 2) := by decide +kernel
theorem dX5_goesOut_85 : decode cX5_goesOut 85 = .ok (.aload_n 0, 1) := by decide +kernel
theorem dX5_goesOut_86 : decode cX5_goesOut 86 = .ok (.getfield 48, 3) := by decide +kernel
theorem dX5_goesOut_89 : decode cX5_goesOut 89 = .ok (.iload 4, 2) := by decide +kernel
theorem dX5_goesOut_91 : decode cX5_goesOut 91 = .ok (.iconst 1, 1) := by decide +kernel
theorem dX5_goesOut_92 : decode cX5_goesOut 92 = .ok (.iadd, 1) := by decide +kernel
theorem dX5_goesOut_93 : decode cX5_goesOut 93 = .ok (.iaload, 1) := by decide +kernel
theorem dX5_goesOut_94 : decode cX5_goesOut 94 = .ok (.iastore, 1) := by decide +kernel
theorem dX5_goesOut_95 : decode cX5_goesOut 95 = .ok (.iinc 4 1, 3) := by decide +kernel
theorem dX5_goesOut_98 : decode cX5_goesOut 98 = .ok (.goto (-51), 3) := by decide +kernel
theorem dX5_goesOut_101 : decode cX5_goesOut 101 = .ok (.iload_n 3, 1) := by decide +kernel
theorem dX5_goesOut_102 : decode cX5_goesOut 102 = .ok (.ifCond .ne 10, 3) := by decide +kernel
theorem dX5_goesOut_105 : decode cX5_goesOut 105 = .ok (.aload_n 0, 1) := by decide +kernel
theorem dX5_goesOut_106 : decode cX5_goesOut 106 = .ok (.iload_n 2, 1) := by decide +kernel
theorem dX5_goesOut_107 : decode cX5_goesOut 107 = .ok (.invokevirtual 183, 3) := by decide +kernel
theorem dX5_goesOut_110 : decode cX5_goesOut 110 = .ok (.iconst 0, 1) := by decide +kernel
theorem dX5_goesOut_111 : decode cX5_goesOut 111 = .ok (.ireturn, 1) := by decide +kernel
theorem dX5_goesOut_112 : decode cX5_goesOut 112 = .ok (.aload_n 0, 1) := by decide +kernel
theorem dX5_goesOut_113 : decode cX5_goesOut 113 = .ok (.getfield 69, 3) := by decide +kernel
theorem dX5_goesOut_116 : decode cX5_goesOut 116 = .ok (.iload_n 2, 1) := by decide +kernel
theorem dX5_goesOut_117 : decode cX5_goesOut 117 = .ok (.dup2, 1) := by decide +kernel
theorem dX5_goesOut_118 : decode cX5_goesOut 118 = .ok (.iaload, 1) := by decide +kernel
theorem dX5_goesOut_119 : decode cX5_goesOut 119 = .ok (.iconst 1, 1) := by decide +kernel
theorem dX5_goesOut_120 : decode cX5_goesOut 120 = .ok (.iadd, 1) := by decide +kernel
theorem dX5_goesOut_121 : decode cX5_goesOut 121 = .ok (.iastore, 1) := by decide +kernel
theorem dX5_goesOut_122 : decode cX5_goesOut 122 = .ok (.aload_n 0, 1) := by decide +kernel
theorem dX5_goesOut_123 : decode cX5_goesOut 123 = .ok (.getfield 75, 3) := by decide +kernel
theorem dX5_goesOut_126 : decode cX5_goesOut 126 = .ok (.iload_n 2, 1) := by decide +kernel
theorem dX5_goesOut_127 : decode cX5_goesOut 127 = .ok (.iload_n 3, 1) := by decide +kernel
theorem dX5_goesOut_128 : decode cX5_goesOut 128 = .ok (.iastore, 1) := by decide +kernel
theorem dX5_goesOut_129 : decode cX5_goesOut 129 = .ok (.iconst 1, 1) := by decide +kernel
theorem dX5_goesOut_130 : decode cX5_goesOut 130 = .ok (.ireturn, 1) := by decide +kernel
theorem dX5_tickNow_0 : decode cX5_tickNow 0 = .ok (.aload_n 0, 1) := by decide +kernel
theorem dX5_tickNow_1 : decode cX5_tickNow 1 = .ok (.dup, 1) := by decide +kernel
theorem dX5_tickNow_2 : decode cX5_tickNow 2 = .ok (.getfield 99, 3) := by decide +kernel
theorem dX5_tickNow_5 : decode cX5_tickNow 5 = .ok (.iconst 1, 1) := by decide +kernel
theorem dX5_tickNow_6 : decode cX5_tickNow 6 = .ok (.iadd, 1) := by decide +kernel
theorem dX5_tickNow_7 : decode cX5_tickNow 7 = .ok (.putfield 99, 3) := by decide +kernel
theorem dX5_tickNow_10 : decode cX5_tickNow 10 = .ok (.aload_n 0, 1) := by decide +kernel
theorem dX5_tickNow_11 : decode cX5_tickNow 11 = .ok (.invokevirtual 189, 3) := by decide +kernel
theorem dX5_tickNow_14 : decode cX5_tickNow 14 = .ok (.aload_n 0, 1) := by decide +kernel
theorem dX5_tickNow_15 : decode cX5_tickNow 15 = .ok (.invokevirtual 192, 3) := by decide +kernel
theorem dX5_tickNow_18 : decode cX5_tickNow 18 = .ok (.iconst 0, 1) := by decide +kernel
theorem dX5_tickNow_19 : decode cX5_tickNow 19 = .ok (.istore_n 1, 1) := by decide +kernel
theorem dX5_tickNow_20 : decode cX5_tickNow 20 = .ok (.iconst 0, 1) := by decide +kernel
theorem dX5_tickNow_21 : decode cX5_tickNow 21 = .ok (.istore_n 2, 1) := by decide +kernel
theorem dX5_tickNow_22 : decode cX5_tickNow 22 = .ok (.iload_n 2, 1) := by decide +kernel
theorem dX5_tickNow_23 : decode cX5_tickNow 23 = .ok (.aload_n 0, 1) := by decide +kernel
theorem dX5_tickNow_24 : decode cX5_tickNow 24 = .ok (.getfield 105, 3) := by decide +kernel
theorem dX5_tickNow_27 : decode cX5_tickNow 27 = .ok (.if_icmp .ge 30, 3) := by decide +kernel
theorem dX5_tickNow_30 : decode cX5_tickNow 30 = .ok (.iload_n 1, 1) := by decide +kernel
theorem dX5_tickNow_31 : decode cX5_tickNow 31 = .ok (.aload_n 0, 1) := by decide +kernel
theorem dX5_tickNow_32 : decode cX5_tickNow 32 = .ok (.getfield 19, 3) := by decide +kernel
theorem dX5_tickNow_35 : decode cX5_tickNow 35 = .ok (.iload_n 2, 1) := by decide +kernel
theorem dX5_tickNow_36 : decode cX5_tickNow 36 = .ok (.baload, 1) := by decide +kernel
theorem dX5_tickNow_37 : decode cX5_tickNow 37 = .ok (.ifCond .eq 11, 3) := by decide +kernel
theorem dX5_tickNow_40 : decode cX5_tickNow 40 = .ok (.aload_n 0, 1) := by decide +kernel
theorem dX5_tickNow_41 : decode cX5_tickNow 41 = .ok (.iload_n 2, 1) := by decide +kernel
theorem dX5_tickNow_42 : decode cX5_tickNow 42 = .ok (.invokevirtual 195, 3) := by decide +kernel
theorem dX5_tickNow_45 : decode cX5_tickNow 45 = .ok (.goto 4, 3) := by decide +kernel
theorem dX5_tickNow_48 : decode cX5_tickNow 48 = .ok (.iconst 0, 1) := by decide +kernel
theorem dX5_tickNow_49 : decode cX5_tickNow 49 = .ok (.iadd, 1) := by decide +kernel
theorem dX5_tickNow_50 : decode cX5_tickNow 50 = .ok (.istore_n 1, 1) := by decide +kernel
theorem dX5_tickNow_51 : decode cX5_tickNow 51 = .ok (.iinc 2 1, 3) := by decide +kernel
theorem dX5_tickNow_54 : decode cX5_tickNow 54 = .ok (.goto (-32), 3) := by decide +kernel
theorem dX5_tickNow_57 : decode cX5_tickNow 57 = .ok (.iload_n 1, 1) := by decide +kernel
theorem dX5_tickNow_58 : decode cX5_tickNow 58 = .ok (.ireturn, 1) := by decide +kernel
theorem dX5_tick_0 : decode cX5_tick 0 = .ok (.iload_n 1, 1) := by decide +kernel
theorem dX5_tick_1 : decode cX5_tick 1 = .ok (.iconst 1, 1) := by decide +kernel
theorem dX5_tick_2 : decode cX5_tick 2 = .ok (.bipush 50, 2) := by decide +kernel
theorem dX5_tick_4 : decode cX5_tick 4 = .ok (.invokestatic 84, 3) := by decide +kernel
theorem dX5_tick_7 : decode cX5_tick 7 = .ok (.ifCond .ne 7, 3) := by decide +kernel
theorem dX5_tick_10 : decode cX5_tick 10 = .ok (.sipush (-1002), 3) := by decide +kernel
theorem dX5_tick_13 : decode cX5_tick 13 = .ok (.ireturn, 1) := by decide +kernel
theorem dX5_tick_14 : decode cX5_tick 14 = .ok (.aload_n 0, 1) := by decide +kernel
theorem dX5_tick_15 : decode cX5_tick 15 = .ok (.getfield 105, 3) := by decide +kernel
theorem dX5_tick_18 : decode cX5_tick 18 = .ok (.ifCond .ne 7, 3) := by decide +kernel
theorem dX5_tick_21 : decode cX5_tick 21 = .ok (.sipush (-1003), 3) := by decide +kernel
theorem dX5_tick_24 : decode cX5_tick 24 = .ok (.ireturn, 1) := by decide +kernel
theorem dX5_tick_25 : decode cX5_tick 25 = .ok (.iconst 0, 1) := by decide +kernel
theorem dX5_tick_26 : decode cX5_tick 26 = .ok (.istore_n 2, 1) := by decide +kernel
theorem dX5_tick_27 : decode cX5_tick 27 = .ok (.iconst 0, 1) := by decide +kernel
theorem dX5_tick_28 : decode cX5_tick 28 = .ok (.istore_n 3, 1) := by decide +kernel
theorem dX5_tick_29 : decode cX5_tick 29 = .ok (.iload_n 3, 1) := by decide +kernel
theorem dX5_tick_30 : decode cX5_tick 30 = .ok (.iload_n 1, 1) := by decide +kernel
theorem dX5_tick_31 : decode cX5_tick 31 = .ok (.if_icmp .ge 16, 3) := by decide +kernel
theorem dX5_tick_34 : decode cX5_tick 34 = .ok (.iload_n 2, 1) := by decide +kernel
theorem dX5_tick_35 : decode cX5_tick 35 = .ok (.aload_n 0, 1) := by decide +kernel
theorem dX5_tick_36 : decode cX5_tick 36 = .ok (.invokevirtual 198, 3) := by decide +kernel
theorem dX5_tick_39 : decode cX5_tick 39 = .ok (.iadd, 1) := by decide +kernel
theorem dX5_tick_40 : decode cX5_tick 40 = .ok (.istore_n 2, 1) := by decide +kernel
theorem dX5_tick_41 : decode cX5_tick 41 = .ok (.iinc 3 1, 3) := by decide +kernel
theorem dX5_tick_44 : decode cX5_tick 44 = .ok (.goto (-15), 3) := by decide +kernel
theorem dX5_tick_47 : decode cX5_tick 47 = .ok (.iload_n 2, 1) := by decide +kernel
theorem dX5_tick_48 : decode cX5_tick 48 = .ok (.ireturn, 1) := by decide +kernel
theorem dX5_sumOf_0 : decode cX5_sumOf 0 = .ok (.iconst 0, 1) := by decide +kernel
theorem dX5_sumOf_1 : decode cX5_sumOf 1 = .ok (.istore_n 2, 1) := by decide +kernel
theorem dX5_sumOf_2 : decode cX5_sumOf 2 = .ok (.iconst 0, 1) := by decide +kernel
theorem dX5_sumOf_3 : decode cX5_sumOf 3 = .ok (.istore_n 3, 1) := by decide +kernel
theorem dX5_sumOf_4 : decode cX5_sumOf 4 = .ok (.iload_n 3, 1) := by decide +kernel
theorem dX5_sumOf_5 : decode cX5_sumOf 5 = .ok (.bipush 12, 2) := by decide +kernel
theorem dX5_sumOf_7 : decode cX5_sumOf 7 = .ok (.if_icmp .ge 15, 3) := by decide +kernel
theorem dX5_sumOf_10 : decode cX5_sumOf 10 = .ok (.iload_n 2, 1) := by decide +kernel
theorem dX5_sumOf_11 : decode cX5_sumOf 11 = .ok (.aload_n 1, 1) := by decide +kernel
theorem dX5_sumOf_12 : decode cX5_sumOf 12 = .ok (.iload_n 3, 1) := by decide +kernel
theorem dX5_sumOf_13 : decode cX5_sumOf 13 = .ok (.iaload, 1) := by decide +kernel
theorem dX5_sumOf_14 : decode cX5_sumOf 14 = .ok (.iadd, 1) := by decide +kernel
theorem dX5_sumOf_15 : decode cX5_sumOf 15 = .ok (.istore_n 2, 1) := by decide +kernel
theorem dX5_sumOf_16 : decode cX5_sumOf 16 = .ok (.iinc 3 1, 3) := by decide +kernel
theorem dX5_sumOf_19 : decode cX5_sumOf 19 = .ok (.goto (-15), 3) := by decide +kernel
theorem dX5_sumOf_22 : decode cX5_sumOf 22 = .ok (.iload_n 2, 1) := by decide +kernel
theorem dX5_sumOf_23 : decode cX5_sumOf 23 = .ok (.ireturn, 1) := by decide +kernel
theorem dX5_howMany_0 : decode cX5_howMany 0 = .ok (.iload_n 1, 1) := by decide +kernel
theorem dX5_howMany_1 : decode cX5_howMany 1 = .ok (.tableswitch 132 0 11 #[63, 68, 73, 73, 73, 81, 86, 95, 104, 113, 122, 127], 63) := by decide +kernel
theorem dX5_howMany_64 : decode cX5_howMany 64 = .ok (.aload_n 0, 1) := by decide +kernel
theorem dX5_howMany_65 : decode cX5_howMany 65 = .ok (.getfield 105, 3) := by decide +kernel
theorem dX5_howMany_68 : decode cX5_howMany 68 = .ok (.ireturn, 1) := by decide +kernel
theorem dX5_howMany_69 : decode cX5_howMany 69 = .ok (.aload_n 0, 1) := by decide +kernel
theorem dX5_howMany_70 : decode cX5_howMany 70 = .ok (.getfield 88, 3) := by decide +kernel
theorem dX5_howMany_73 : decode cX5_howMany 73 = .ok (.ireturn, 1) := by decide +kernel
theorem dX5_howMany_74 : decode cX5_howMany 74 = .ok (.aload_n 0, 1) := by decide +kernel
theorem dX5_howMany_75 : decode cX5_howMany 75 = .ok (.iload_n 1, 1) := by decide +kernel
theorem dX5_howMany_76 : decode cX5_howMany 76 = .ok (.iconst 2, 1) := by decide +kernel
theorem dX5_howMany_77 : decode cX5_howMany 77 = .ok (.isub, 1) := by decide +kernel
theorem dX5_howMany_78 : decode cX5_howMany 78 = .ok (.invokevirtual 135, 3) := by decide +kernel
theorem dX5_howMany_81 : decode cX5_howMany 81 = .ok (.ireturn, 1) := by decide +kernel
theorem dX5_howMany_82 : decode cX5_howMany 82 = .ok (.aload_n 0, 1) := by decide +kernel
theorem dX5_howMany_83 : decode cX5_howMany 83 = .ok (.getfield 99, 3) := by decide +kernel
theorem dX5_howMany_86 : decode cX5_howMany 86 = .ok (.ireturn, 1) := by decide +kernel
theorem dX5_howMany_87 : decode cX5_howMany 87 = .ok (.aload_n 0, 1) := by decide +kernel
theorem dX5_howMany_88 : decode cX5_howMany 88 = .ok (.aload_n 0, 1) := by decide +kernel
theorem dX5_howMany_89 : decode cX5_howMany 89 = .ok (.getfield 66, 3) := by decide +kernel
theorem dX5_howMany_92 : decode cX5_howMany 92 = .ok (.invokevirtual 201, 3) := by decide +kernel
theorem dX5_howMany_95 : decode cX5_howMany 95 = .ok (.ireturn, 1) := by decide +kernel
theorem dX5_howMany_96 : decode cX5_howMany 96 = .ok (.aload_n 0, 1) := by decide +kernel
theorem dX5_howMany_97 : decode cX5_howMany 97 = .ok (.aload_n 0, 1) := by decide +kernel
theorem dX5_howMany_98 : decode cX5_howMany 98 = .ok (.getfield 69, 3) := by decide +kernel
theorem dX5_howMany_101 : decode cX5_howMany 101 = .ok (.invokevirtual 201, 3) := by decide +kernel
theorem dX5_howMany_104 : decode cX5_howMany 104 = .ok (.ireturn, 1) := by decide +kernel
theorem dX5_howMany_105 : decode cX5_howMany 105 = .ok (.aload_n 0, 1) := by decide +kernel
theorem dX5_howMany_106 : decode cX5_howMany 106 = .ok (.aload_n 0, 1) := by decide +kernel
theorem dX5_howMany_107 : decode cX5_howMany 107 = .ok (.getfield 72, 3) := by decide +kernel
theorem dX5_howMany_110 : decode cX5_howMany 110 = .ok (.invokevirtual 201, 3) := by decide +kernel
theorem dX5_howMany_113 : decode cX5_howMany 113 = .ok (.ireturn, 1) := by decide +kernel
theorem dX5_howMany_114 : decode cX5_howMany 114 = .ok (.aload_n 0, 1) := by decide +kernel
theorem dX5_howMany_115 : decode cX5_howMany 115 = .ok (.aload_n 0, 1) := by decide +kernel
theorem dX5_howMany_116 : decode cX5_howMany 116 = .ok (.getfield 60, 3) := by decide +kernel
theorem dX5_howMany_119 : decode cX5_howMany 119 = .ok (.invokevirtual 201, 3) := by decide +kernel
theorem dX5_howMany_122 : decode cX5_howMany 122 = .ok (.ireturn, 1) := by decide +kernel
theorem dX5_howMany_123 : decode cX5_howMany 123 = .ok (.aload_n 0, 1) := by decide +kernel
theorem dX5_howMany_124 : decode cX5_howMany 124 = .ok (.getfield 102, 3) := by decide +kernel
theorem dX5_howMany_127 : decode cX5_howMany 127 = .ok (.ireturn, 1) := by decide +kernel
theorem dX5_howMany_128 : decode cX5_howMany 128 = .ok (.aload_n 0, 1) := by decide +kernel
theorem dX5_howMany_129 : decode cX5_howMany 129 = .ok (.getfield 112, 3) := by decide +kernel
theorem dX5_howMany_132 : decode cX5_howMany 132 = .ok (.ireturn, 1) := by decide +kernel
theorem dX5_howMany_133 : decode cX5_howMany 133 = .ok (.sipush (-1002), 3) := by decide +kernel
theorem dX5_howMany_136 : decode cX5_howMany 136 = .ok (.ireturn, 1) := by decide +kernel
theorem dX5_count_0 : decode cX5_count 0 = .ok (.aload_n 0, 1) := by decide +kernel
theorem dX5_count_1 : decode cX5_count 1 = .ok (.iload_n 1, 1) := by decide +kernel
theorem dX5_count_2 : decode cX5_count 2 = .ok (.invokevirtual 205, 3) := by decide +kernel
theorem dX5_count_5 : decode cX5_count 5 = .ok (.ireturn, 1) := by decide +kernel
theorem dX5_mix_0 : decode cX5_mix 0 = .ok (.aload_n 0, 1) := by decide +kernel
theorem dX5_mix_1 : decode cX5_mix 1 = .ok (.ldc2_w 208, 3) := by decide +kernel
theorem dX5_mix_4 : decode cX5_mix 4 = .ok (.aload_n 0, 1) := by decide +kernel
theorem dX5_mix_5 : decode cX5_mix 5 = .ok (.getfield 210, 3) := by decide +kernel
theorem dX5_mix_8 : decode cX5_mix 8 = .ok (.lmul, 1) := by decide +kernel
theorem dX5_mix_9 : decode cX5_mix 9 = .ok (.lload_n 1, 1) := by decide +kernel
theorem dX5_mix_10 : decode cX5_mix 10 = .ok (.ladd, 1) := by decide +kernel
theorem dX5_mix_11 : decode cX5_mix 11 = .ok (.putfield 210, 3) := by decide +kernel
theorem dX5_mix_14 : decode cX5_mix 14 = .ok (.return_, 1) := by decide +kernel
theorem dX5_mixPorts_0 : decode cX5_mixPorts 0 = .ok (.iconst 0, 1) := by decide +kernel
theorem dX5_mixPorts_1 : decode cX5_mixPorts 1 = .ok (.istore_n 1, 1) := by decide +kernel
theorem dX5_mixPorts_2 : decode cX5_mixPorts 2 = .ok (.iload_n 1, 1) := by decide +kernel
theorem dX5_mixPorts_3 : decode cX5_mixPorts 3 = .ok (.aload_n 0, 1) := by decide +kernel
theorem dX5_mixPorts_4 : decode cX5_mixPorts 4 = .ok (.getfield 105, 3) := by decide +kernel
theorem dX5_mixPorts_7 : decode cX5_mixPorts 7 = .ok (.if_icmp .ge 63, 3) := by decide +kernel
theorem dX5_mixPorts_10 : decode cX5_mixPorts 10 = .ok (.iconst 0, 1) := by decide +kernel
theorem dX5_mixPorts_11 : decode cX5_mixPorts 11 = .ok (.istore_n 2, 1) := by decide +kernel
theorem dX5_mixPorts_12 : decode cX5_mixPorts 12 = .ok (.iload_n 2, 1) := by decide +kernel
theorem dX5_mixPorts_13 : decode cX5_mixPorts 13 = .ok (.bipush 10, 2) := by decide +kernel
theorem dX5_mixPorts_15 : decode cX5_mixPorts 15 = .ok (.if_icmp .ge 20, 3) := by decide +kernel
theorem dX5_mixPorts_18 : decode cX5_mixPorts 18 = .ok (.aload_n 0, 1) := by decide +kernel
theorem dX5_mixPorts_19 : decode cX5_mixPorts 19 = .ok (.aload_n 0, 1) := by decide +kernel
theorem dX5_mixPorts_20 : decode cX5_mixPorts 20 = .ok (.iload_n 1, 1) := by decide +kernel
theorem dX5_mixPorts_21 : decode cX5_mixPorts 21 = .ok (.iload_n 2, 1) := by decide +kernel
theorem dX5_mixPorts_22 : decode cX5_mixPorts 22 = .ok (.invokevirtual 147, 3) := by decide +kernel
theorem dX5_mixPorts_25 : decode cX5_mixPorts 25 = .ok (.i2l, 1) := by decide +kernel
theorem dX5_mixPorts_26 : decode cX5_mixPorts 26 = .ok (.invokevirtual 214, 3) := by decide +kernel
theorem dX5_mixPorts_29 : decode cX5_mixPorts 29 = .ok (.iinc 2 1, 3) := by decide +kernel
theorem dX5_mixPorts_32 : decode cX5_mixPorts 32 = .ok (.goto (-20), 3) := by decide +kernel
theorem dX5_mixPorts_35 : decode cX5_mixPorts 35 = .ok (.iconst 0, 1) := by decide +kernel
theorem dX5_mixPorts_36 : decode cX5_mixPorts 36 = .ok (.istore_n 2, 1) := by decide +kernel
theorem dX5_mixPorts_37 : decode cX5_mixPorts 37 = .ok (.iload_n 2, 1) := by decide +kernel
theorem dX5_mixPorts_38 : decode cX5_mixPorts 38 = .ok (.aload_n 0, 1) := by decide +kernel
theorem dX5_mixPorts_39 : decode cX5_mixPorts 39 = .ok (.getfield 51, 3) := by decide +kernel
theorem dX5_mixPorts_42 : decode cX5_mixPorts 42 = .ok (.iload_n 1, 1) := by decide +kernel
theorem dX5_mixPorts_43 : decode cX5_mixPorts 43 = .ok (.iaload, 1) := by decide +kernel
theorem dX5_mixPorts_44 : decode cX5_mixPorts 44 = .ok (.if_icmp .ge 20, 3) := by decide +kernel
theorem dX5_mixPorts_47 : decode cX5_mixPorts 47 = .ok (.aload_n 0, 1) := by decide +kernel
theorem dX5_mixPorts_48 : decode cX5_mixPorts 48 = .ok (.aload_n 0, 1) := by decide +kernel
theorem dX5_mixPorts_49 : decode cX5_mixPorts 49 = .ok (.iload_n 1, 1) := by decide +kernel
theorem dX5_mixPorts_50 : decode cX5_mixPorts 50 = .ok (.iload_n 2, 1) := by decide +kernel
theorem dX5_mixPorts_51 : decode cX5_mixPorts 51 = .ok (.invokevirtual 151, 3) := by decide +kernel
theorem dX5_mixPorts_54 : decode cX5_mixPorts 54 = .ok (.i2l, 1) := by decide +kernel
theorem dX5_mixPorts_55 : decode cX5_mixPorts 55 = .ok (.invokevirtual 214, 3) := by decide +kernel
theorem dX5_mixPorts_58 : decode cX5_mixPorts 58 = .ok (.iinc 2 1, 3) := by decide +kernel
theorem dX5_mixPorts_61 : decode cX5_mixPorts 61 = .ok (.goto (-24), 3) := by decide +kernel
theorem dX5_mixPorts_64 : decode cX5_mixPorts 64 = .ok (.iinc 1 1, 3) := by decide +kernel
theorem dX5_mixPorts_67 : decode cX5_mixPorts 67 = .ok (.goto (-65), 3) := by decide +kernel
theorem dX5_mixPorts_70 : decode cX5_mixPorts 70 = .ok (.return_, 1) := by decide +kernel
theorem dX5_mixFlows_0 : decode cX5_mixFlows 0 = .ok (.iconst 0, 1) := by decide +kernel
theorem dX5_mixFlows_1 : decode cX5_mixFlows 1 = .ok (.istore_n 1, 1) := by decide +kernel
theorem dX5_mixFlows_2 : decode cX5_mixFlows 2 = .ok (.iload_n 1, 1) := by decide +kernel
theorem dX5_mixFlows_3 : decode cX5_mixFlows 3 = .ok (.bipush 12, 2) := by decide +kernel
theorem dX5_mixFlows_5 : decode cX5_mixFlows 5 = .ok (.if_icmp .ge 44, 3) := by decide +kernel
theorem dX5_mixFlows_8 : decode cX5_mixFlows 8 = .ok (.aload_n 0, 1) := by decide +kernel
theorem dX5_mixFlows_9 : decode cX5_mixFlows 9 = .ok (.aload_n 0, 1) := by decide +kernel
theorem dX5_mixFlows_10 : decode cX5_mixFlows 10 = .ok (.iload_n 1, 1) := by decide +kernel
theorem dX5_mixFlows_11 : decode cX5_mixFlows 11 = .ok (.invokevirtual 164, 3) := by decide +kernel
theorem dX5_mixFlows_14 : decode cX5_mixFlows 14 = .ok (.i2l, 1) := by decide +kernel
theorem dX5_mixFlows_15 : decode cX5_mixFlows 15 = .ok (.invokevirtual 214, 3) := by decide +kernel
theorem dX5_mixFlows_18 : decode cX5_mixFlows 18 = .ok (.iconst 0, 1) := by decide +kernel
theorem dX5_mixFlows_19 : decode cX5_mixFlows 19 = .ok (.istore_n 2, 1) := by decide +kernel
theorem dX5_mixFlows_20 : decode cX5_mixFlows 20 = .ok (.iload_n 2, 1) := by decide +kernel
theorem dX5_mixFlows_21 : decode cX5_mixFlows 21 = .ok (.bipush 7, 2) := by decide +kernel
theorem dX5_mixFlows_23 : decode cX5_mixFlows 23 = .ok (.if_icmp .ge 20, 3) := by decide +kernel
theorem dX5_mixFlows_26 : decode cX5_mixFlows 26 = .ok (.aload_n 0, 1) := by decide +kernel
theorem dX5_mixFlows_27 : decode cX5_mixFlows 27 = .ok (.aload_n 0, 1) := by decide +kernel
theorem dX5_mixFlows_28 : decode cX5_mixFlows 28 = .ok (.iload_n 1, 1) := by decide +kernel
theorem dX5_mixFlows_29 : decode cX5_mixFlows 29 = .ok (.iload_n 2, 1) := by decide +kernel
theorem dX5_mixFlows_30 : decode cX5_mixFlows 30 = .ok (.invokevirtual 186, 3) := by decide +kernel
theorem dX5_mixFlows_33 : decode cX5_mixFlows 33 = .ok (.i2l, 1) := by decide +kernel
theorem dX5_mixFlows_34 : decode cX5_mixFlows 34 = .ok (.invokevirtual 214, 3) := by decide +kernel
theorem dX5_mixFlows_37 : decode cX5_mixFlows 37 = .ok (.iinc 2 1, 3) := by decide +kernel
theorem dX5_mixFlows_40 : decode cX5_mixFlows 40 = .ok (.goto (-20), 3) := by decide +kernel
theorem dX5_mixFlows_43 : decode cX5_mixFlows 43 = .ok (.iinc 1 1, 3) := by decide +kernel
theorem dX5_mixFlows_46 : decode cX5_mixFlows 46 = .ok (.goto (-44), 3) := by decide +kernel
theorem dX5_mixFlows_49 : decode cX5_mixFlows 49 = .ok (.return_, 1) := by decide +kernel
theorem dX5_digest_0 : decode cX5_digest 0 = .ok (.aload_n 0, 1) := by decide +kernel
theorem dX5_digest_1 : decode cX5_digest 1 = .ok (.ldc2_w 218, 3) := by decide +kernel
theorem dX5_digest_4 : decode cX5_digest 4 = .ok (.putfield 210, 3) := by decide +kernel
theorem dX5_digest_7 : decode cX5_digest 7 = .ok (.aload_n 0, 1) := by decide +kernel
theorem dX5_digest_8 : decode cX5_digest 8 = .ok (.invokevirtual 220, 3) := by decide +kernel
theorem dX5_digest_11 : decode cX5_digest 11 = .ok (.iconst 0, 1) := by decide +kernel
theorem dX5_digest_12 : decode cX5_digest 12 = .ok (.istore_n 1, 1) := by decide +kernel
theorem dX5_digest_13 : decode cX5_digest 13 = .ok (.iload_n 1, 1) := by decide +kernel
theorem dX5_digest_14 : decode cX5_digest 14 = .ok (.iconst 4, 1) := by decide +kernel
theorem dX5_digest_15 : decode cX5_digest 15 = .ok (.if_icmp .ge 33, 3) := by decide +kernel
theorem dX5_digest_18 : decode cX5_digest 18 = .ok (.iconst 0, 1) := by decide +kernel
theorem dX5_digest_19 : decode cX5_digest 19 = .ok (.istore_n 2, 1) := by decide +kernel
theorem dX5_digest_20 : decode cX5_digest 20 = .ok (.iload_n 2, 1) := by decide +kernel
theorem dX5_digest_21 : decode cX5_digest 21 = .ok (.iconst 4, 1) := by decide +kernel
theorem dX5_digest_22 : decode cX5_digest 22 = .ok (.if_icmp .ge 20, 3) := by decide +kernel
theorem dX5_digest_25 : decode cX5_digest 25 = .ok (.aload_n 0, 1) := by decide +kernel
theorem dX5_digest_26 : decode cX5_digest 26 = .ok (.aload_n 0, 1) := by decide +kernel
theorem dX5_digest_27 : decode cX5_digest 27 = .ok (.iload_n 1, 1) := by decide +kernel
theorem dX5_digest_28 : decode cX5_digest 28 = .ok (.iload_n 2, 1) := by decide +kernel
theorem dX5_digest_29 : decode cX5_digest 29 = .ok (.invokevirtual 158, 3) := by decide +kernel
theorem dX5_digest_32 : decode cX5_digest 32 = .ok (.i2l, 1) := by decide +kernel
theorem dX5_digest_33 : decode cX5_digest 33 = .ok (.invokevirtual 214, 3) := by decide +kernel
theorem dX5_digest_36 : decode cX5_digest 36 = .ok (.iinc 2 1, 3) := by decide +kernel
theorem dX5_digest_39 : decode cX5_digest 39 = .ok (.goto (-19), 3) := by decide +kernel
theorem dX5_digest_42 : decode cX5_digest 42 = .ok (.iinc 1 1, 3) := by decide +kernel
theorem dX5_digest_45 : decode cX5_digest 45 = .ok (.goto (-32), 3) := by decide +kernel
theorem dX5_digest_48 : decode cX5_digest 48 = .ok (.aload_n 0, 1) := by decide +kernel
theorem dX5_digest_49 : decode cX5_digest 49 = .ok (.invokevirtual 223, 3) := by decide +kernel
theorem dX5_digest_52 : decode cX5_digest 52 = .ok (.iconst 0, 1) := by decide +kernel
theorem dX5_digest_53 : decode cX5_digest 53 = .ok (.istore_n 1, 1) := by decide +kernel
theorem dX5_digest_54 : decode cX5_digest 54 = .ok (.iload_n 1, 1) := by decide +kernel
theorem dX5_digest_55 : decode cX5_digest 55 = .ok (.aload_n 0, 1) := by decide +kernel
theorem dX5_digest_56 : decode cX5_digest 56 = .ok (.getfield 88, 3) := by decide +kernel
theorem dX5_digest_59 : decode cX5_digest 59 = .ok (.if_icmp .ge 20, 3) := by decide +kernel
theorem dX5_digest_62 : decode cX5_digest 62 = .ok (.aload_n 0, 1) := by decide +kernel
theorem dX5_digest_63 : decode cX5_digest 63 = .ok (.aload_n 0, 1) := by decide +kernel
theorem dX5_digest_64 : decode cX5_digest 64 = .ok (.getfield 7, 3) := by decide +kernel
theorem dX5_digest_67 : decode cX5_digest 67 = .ok (.iload_n 1, 1) := by decide +kernel
theorem dX5_digest_68 : decode cX5_digest 68 = .ok (.iaload, 1) := by decide +kernel
theorem dX5_digest_69 : decode cX5_digest 69 = .ok (.i2l, 1) := by decide +kernel
theorem dX5_digest_70 : decode cX5_digest 70 = .ok (.invokevirtual 214, 3) := by decide +kernel
theorem dX5_digest_73 : decode cX5_digest 73 = .ok (.iinc 1 1, 3) := by decide +kernel
theorem dX5_digest_76 : decode cX5_digest 76 = .ok (.goto (-22), 3) := by decide +kernel
theorem dX5_digest_79 : decode cX5_digest 79 = .ok (.iconst 0, 1) := by decide +kernel
theorem dX5_digest_80 : decode cX5_digest 80 = .ok (.istore_n 1, 1) := by decide +kernel
theorem dX5_digest_81 : decode cX5_digest 81 = .ok (.iload_n 1, 1) := by decide +kernel
theorem dX5_digest_82 : decode cX5_digest 82 = .ok (.bipush 12, 2) := by decide +kernel
theorem dX5_digest_84 : decode cX5_digest 84 = .ok (.if_icmp .ge 19, 3) := by decide +kernel
theorem dX5_digest_87 : decode cX5_digest 87 = .ok (.aload_n 0, 1) := by decide +kernel
theorem dX5_digest_88 : decode cX5_digest 88 = .ok (.aload_n 0, 1) := by decide +kernel
theorem dX5_digest_89 : decode cX5_digest 89 = .ok (.iload_n 1, 1) := by decide +kernel
theorem dX5_digest_90 : decode cX5_digest 90 = .ok (.invokevirtual 205, 3) := by decide +kernel
theorem dX5_digest_93 : decode cX5_digest 93 = .ok (.i2l, 1) := by decide +kernel
theorem dX5_digest_94 : decode cX5_digest 94 = .ok (.invokevirtual 214, 3) := by decide +kernel
theorem dX5_digest_97 : decode cX5_digest 97 = .ok (.iinc 1 1, 3) := by decide +kernel
theorem dX5_digest_100 : decode cX5_digest 100 = .ok (.goto (-19), 3) := by decide +kernel
theorem dX5_digest_103 : decode cX5_digest 103 = .ok (.aload_n 0, 1) := by decide +kernel
theorem dX5_digest_104 : decode cX5_digest 104 = .ok (.getfield 210, 3) := by decide +kernel
theorem dX5_digest_107 : decode cX5_digest 107 = .ok (.lreturn, 1) := by decide +kernel
theorem dL_law_0 : decode cL_law 0 = .ok (.new 7, 3) := by decide +kernel
theorem dL_law_3 : decode cL_law 3 = .ok (.dup, 1) := by decide +kernel
theorem dL_law_4 : decode cL_law 4 = .ok (.invokespecial 9, 3) := by decide +kernel
theorem dL_law_7 : decode cL_law 7 = .ok (.astore_n 1, 1) := by decide +kernel
theorem dL_law_8 : decode cL_law 8 = .ok (.new 10, 3) := by decide +kernel
theorem dL_law_11 : decode cL_law 11 = .ok (.dup, 1) := by decide +kernel
theorem dL_law_12 : decode cL_law 12 = .ok (.invokespecial 12, 3) := by decide +kernel
theorem dL_law_15 : decode cL_law 15 = .ok (.astore_n 2, 1) := by decide +kernel
theorem dL_law_16 : decode cL_law 16 = .ok (.iconst 0, 1) := by decide +kernel
theorem dL_law_17 : decode cL_law 17 = .ok (.istore_n 3, 1) := by decide +kernel
theorem dL_law_18 : decode cL_law 18 = .ok (.iload_n 3, 1) := by decide +kernel
theorem dL_law_19 : decode cL_law 19 = .ok (.aload_n 0, 1) := by decide +kernel
theorem dL_law_20 : decode cL_law 20 = .ok (.arraylength, 1) := by decide +kernel
theorem dL_law_21 : decode cL_law 21 = .ok (.iconst 5, 1) := by decide +kernel
theorem dL_law_22 : decode cL_law 22 = .ok (.isub, 1) := by decide +kernel
theorem dL_law_23 : decode cL_law 23 = .ok (.if_icmp .gt 583, 3) := by decide +kernel
theorem dL_law_26 : decode cL_law 26 = .ok (.aload_n 0, 1) := by decide +kernel
theorem dL_law_27 : decode cL_law 27 = .ok (.iload_n 3, 1) := by decide +kernel
theorem dL_law_28 : decode cL_law 28 = .ok (.iaload, 1) := by decide +kernel
theorem dL_law_29 : decode cL_law 29 = .ok (.bipush 31, 2) := by decide +kernel
theorem dL_law_31 : decode cL_law 31 = .ok (.iand, 1) := by decide +kernel
theorem dL_law_32 : decode cL_law 32 = .ok (.tableswitch 568 0 16 #[84, 107, 120, 133, 146, 179, 212, 261, 330, 363, 396, 429, 452, 475, 508, 531, 554], 84) := by decide +kernel
theorem dL_law_116 : decode cL_law 116 = .ok (.aload_n 1, 1) := by decide +kernel
theorem dL_law_117 : decode cL_law 117 = .ok (.aload_n 0, 1) := by decide +kernel
theorem dL_law_118 : decode cL_law 118 = .ok (.iload_n 3, 1) := by decide +kernel
theorem dL_law_119 : decode cL_law 119 = .ok (.iconst 1, 1) := by decide +kernel
theorem dL_law_120 : decode cL_law 120 = .ok (.iadd, 1) := by decide +kernel
theorem dL_law_121 : decode cL_law 121 = .ok (.iaload, 1) := by decide +kernel
theorem dL_law_122 : decode cL_law 122 = .ok (.invokevirtual 13, 3) := by decide +kernel
theorem dL_law_125 : decode cL_law 125 = .ok (.aload_n 2, 1) := by decide +kernel
theorem dL_law_126 : decode cL_law 126 = .ok (.aload_n 0, 1) := by decide +kernel
theorem dL_law_127 : decode cL_law 127 = .ok (.iload_n 3, 1) := by decide +kernel
theorem dL_law_128 : decode cL_law 128 = .ok (.iconst 1, 1) := by decide +kernel
theorem dL_law_129 : decode cL_law 129 = .ok (.iadd, 1) := by decide +kernel
theorem dL_law_130 : decode cL_law 130 = .ok (.iaload, 1) := by decide +kernel
theorem dL_law_131 : decode cL_law 131 = .ok (.invokevirtual 17, 3) := by decide +kernel
theorem dL_law_134 : decode cL_law 134 = .ok (.if_icmp .eq 466, 3) := by decide +kernel
theorem dL_law_137 : decode cL_law 137 = .ok (.iconst 0, 1) := by decide +kernel
theorem dL_law_138 : decode cL_law 138 = .ok (.ireturn, 1) := by decide +kernel
theorem dL_law_139 : decode cL_law 139 = .ok (.aload_n 1, 1) := by decide +kernel
theorem dL_law_140 : decode cL_law 140 = .ok (.invokevirtual 18, 3) := by decide +kernel
theorem dL_law_143 : decode cL_law 143 = .ok (.aload_n 2, 1) := by decide +kernel
theorem dL_law_144 : decode cL_law 144 = .ok (.invokevirtual 22, 3) := by decide +kernel
theorem dL_law_147 : decode cL_law 147 = .ok (.if_icmp .eq 453, 3) := by decide +kernel
theorem dL_law_150 : decode cL_law 150 = .ok (.iconst 0, 1) := by decide +kernel
theorem dL_law_151 : decode cL_law 151 = .ok (.ireturn, 1) := by decide +kernel
theorem dL_law_152 : decode cL_law 152 = .ok (.aload_n 1, 1) := by decide +kernel
theorem dL_law_153 : decode cL_law 153 = .ok (.invokevirtual 23, 3) := by decide +kernel
theorem dL_law_156 : decode cL_law 156 = .ok (.aload_n 2, 1) := by decide +kernel
theorem dL_law_157 : decode cL_law 157 = .ok (.invokevirtual 26, 3) := by decide +kernel
theorem dL_law_160 : decode cL_law 160 = .ok (.if_icmp .eq 440, 3) := by decide +kernel
theorem dL_law_163 : decode cL_law 163 = .ok (.iconst 0, 1) := by decide +kernel
theorem dL_law_164 : decode cL_law 164 = .ok (.ireturn, 1) := by decide +kernel
theorem dL_law_165 : decode cL_law 165 = .ok (.aload_n 1, 1) := by decide +kernel
theorem dL_law_166 : decode cL_law 166 = .ok (.invokevirtual 27, 3) := by decide +kernel
theorem dL_law_169 : decode cL_law 169 = .ok (.aload_n 2, 1) := by decide +kernel
theorem dL_law_170 : decode cL_law 170 = .ok (.invokevirtual 30, 3) := by decide +kernel
theorem dL_law_173 : decode cL_law 173 = .ok (.if_icmp .eq 427, 3) := by decide +kernel
theorem dL_law_176 : decode cL_law 176 = .ok (.iconst 0, 1) := by decide +kernel
theorem dL_law_177 : decode cL_law 177 = .ok (.ireturn, 1) := by decide +kernel
theorem dL_law_178 : decode cL_law 178 = .ok (.aload_n 1, 1) := by decide +kernel
theorem dL_law_179 : decode cL_law 179 = .ok (.aload_n 0, 1) := by decide +kernel
theorem dL_law_180 : decode cL_law 180 = .ok (.iload_n 3, 1) := by decide +kernel
theorem dL_law_181 : decode cL_law 181 = .ok (.iconst 1, 1) := by decide +kernel
theorem dL_law_182 : decode cL_law 182 = .ok (.iadd, 1) := by decide +kernel
theorem dL_law_183 : decode cL_law 183 = .ok (.iaload, 1) := by decide +kernel
theorem dL_law_184 : decode cL_law 184 = .ok (.aload_n 0, 1) := by decide +kernel
theorem dL_law_185 : decode cL_law 185 = .ok (.iload_n 3, 1) := by decide +kernel
theorem dL_law_186 : decode cL_law 186 = .ok (.iconst 2, 1) := by decide +kernel
theorem dL_law_187 : decode cL_law 187 = .ok (.iadd, 1) := by decide +kernel
theorem dL_law_188 : decode cL_law 188 = .ok (.iaload, 1) := by decide +kernel
theorem dL_law_189 : decode cL_law 189 = .ok (.invokevirtual 31, 3) := by decide +kernel
theorem dL_law_192 : decode cL_law 192 = .ok (.aload_n 2, 1) := by decide +kernel
theorem dL_law_193 : decode cL_law 193 = .ok (.aload_n 0, 1) := by decide +kernel
theorem dL_law_194 : decode cL_law 194 = .ok (.iload_n 3, 1) := by decide +kernel
theorem dL_law_195 : decode cL_law 195 = .ok (.iconst 1, 1) := by decide +kernel
theorem dL_law_196 : decode cL_law 196 = .ok (.iadd, 1) := by decide +kernel
theorem dL_law_197 : decode cL_law 197 = .ok (.iaload, 1) := by decide +kernel
theorem dL_law_198 : decode cL_law 198 = .ok (.aload_n 0, 1) := by decide +kernel
theorem dL_law_199 : decode cL_law 199 = .ok (.iload_n 3, 1) := by decide +kernel
theorem dL_law_200 : decode cL_law 200 = .ok (.iconst 2, 1) := by decide +kernel
theorem dL_law_201 : decode cL_law 201 = .ok (.iadd, 1) := by decide +kernel
theorem dL_law_202 : decode cL_law 202 = .ok (.iaload, 1) := by decide +kernel
theorem dL_law_203 : decode cL_law 203 = .ok (.invokevirtual 35, 3) := by decide +kernel
theorem dL_law_206 : decode cL_law 206 = .ok (.if_icmp .eq 394, 3) := by decide +kernel
theorem dL_law_209 : decode cL_law 209 = .ok (.iconst 0, 1) := by decide +kernel
theorem dL_law_210 : decode cL_law 210 = .ok (.ireturn, 1) := by decide +kernel
theorem dL_law_211 : decode cL_law 211 = .ok (.aload_n 1, 1) := by decide +kernel
theorem dL_law_212 : decode cL_law 212 = .ok (.aload_n 0, 1) := by decide +kernel
theorem dL_law_213 : decode cL_law 213 = .ok (.iload_n 3, 1) := by decide +kernel
theorem dL_law_214 : decode cL_law 214 = .ok (.iconst 1, 1) := by decide +kernel
theorem dL_law_215 : decode cL_law 215 = .ok (.iadd, 1) := by decide +kernel
theorem dL_law_216 : decode cL_law 216 = .ok (.iaload, 1) := by decide +kernel
theorem dL_law_217 : decode cL_law 217 = .ok (.aload_n 0, 1) := by decide +kernel
theorem dL_law_218 : decode cL_law 218 = .ok (.iload_n 3, 1) := by decide +kernel
theorem dL_law_219 : decode cL_law 219 = .ok (.iconst 2, 1) := by decide +kernel
theorem dL_law_220 : decode cL_law 220 = .ok (.iadd, 1) := by decide +kernel
theorem dL_law_221 : decode cL_law 221 = .ok (.iaload, 1) := by decide +kernel
theorem dL_law_222 : decode cL_law 222 = .ok (.invokevirtual 36, 3) := by decide +kernel
theorem dL_law_225 : decode cL_law 225 = .ok (.aload_n 2, 1) := by decide +kernel
theorem dL_law_226 : decode cL_law 226 = .ok (.aload_n 0, 1) := by decide +kernel
theorem dL_law_227 : decode cL_law 227 = .ok (.iload_n 3, 1) := by decide +kernel
theorem dL_law_228 : decode cL_law 228 = .ok (.iconst 1, 1) := by decide +kernel
theorem dL_law_229 : decode cL_law 229 = .ok (.iadd, 1) := by decide +kernel
theorem dL_law_230 : decode cL_law 230 = .ok (.iaload, 1) := by decide +kernel
theorem dL_law_231 : decode cL_law 231 = .ok (.aload_n 0, 1) := by decide +kernel
theorem dL_law_232 : decode cL_law 232 = .ok (.iload_n 3, 1) := by decide +kernel
theorem dL_law_233 : decode cL_law 233 = .ok (.iconst 2, 1) := by decide +kernel
theorem dL_law_234 : decode cL_law 234 = .ok (.iadd, 1) := by decide +kernel
theorem dL_law_235 : decode cL_law 235 = .ok (.iaload, 1) := by decide +kernel
theorem dL_law_236 : decode cL_law 236 = .ok (.invokevirtual 39, 3) := by decide +kernel
theorem dL_law_239 : decode cL_law 239 = .ok (.if_icmp .eq 361, 3) := by decide +kernel
theorem dL_law_242 : decode cL_law 242 = .ok (.iconst 0, 1) := by decide +kernel
theorem dL_law_243 : decode cL_law 243 = .ok (.ireturn, 1) := by decide +kernel
theorem dL_law_244 : decode cL_law 244 = .ok (.aload_n 1, 1) := by decide +kernel
theorem dL_law_245 : decode cL_law 245 = .ok (.aload_n 0, 1) := by decide +kernel
theorem dL_law_246 : decode cL_law 246 = .ok (.iload_n 3, 1) := by decide +kernel
theorem dL_law_247 : decode cL_law 247 = .ok (.iconst 1, 1) := by decide +kernel
theorem dL_law_248 : decode cL_law 248 = .ok (.iadd, 1) := by decide +kernel
theorem dL_law_249 : decode cL_law 249 = .ok (.iaload, 1) := by decide +kernel
theorem dL_law_250 : decode cL_law 250 = .ok (.aload_n 0, 1) := by decide +kernel
theorem dL_law_251 : decode cL_law 251 = .ok (.iload_n 3, 1) := by decide +kernel
theorem dL_law_252 : decode cL_law 252 = .ok (.iconst 2, 1) := by decide +kernel
theorem dL_law_253 : decode cL_law 253 = .ok (.iadd, 1) := by decide +kernel
theorem dL_law_254 : decode cL_law 254 = .ok (.iaload, 1) := by decide +kernel
theorem dL_law_255 : decode cL_law 255 = .ok (.ifCond .eq 7, 3) := by decide +kernel
theorem dL_law_258 : decode cL_law 258 = .ok (.iconst 1, 1) := by decide +kernel
theorem dL_law_259 : decode cL_law 259 = .ok (.goto 4, 3) := by decide +kernel
theorem dL_law_262 : decode cL_law 262 = .ok (.iconst 0, 1) := by decide +kernel
theorem dL_law_263 : decode cL_law 263 = .ok (.invokevirtual 40, 3) := by decide +kernel
theorem dL_law_266 : decode cL_law 266 = .ok (.aload_n 2, 1) := by decide +kernel
theorem dL_law_267 : decode cL_law 267 = .ok (.aload_n 0, 1) := by decide +kernel
theorem dL_law_268 : decode cL_law 268 = .ok (.iload_n 3, 1) := by decide +kernel
theorem dL_law_269 : decode cL_law 269 = .ok (.iconst 1, 1) := by decide +kernel
theorem dL_law_270 : decode cL_law 270 = .ok (.iadd, 1) := by decide +kernel
theorem dL_law_271 : decode cL_law 271 = .ok (.iaload, 1) := by decide +kernel
theorem dL_law_272 : decode cL_law 272 = .ok (.aload_n 0, 1) := by decide +kernel
theorem dL_law_273 : decode cL_law 273 = .ok (.iload_n 3, 1) := by decide +kernel
theorem dL_law_274 : decode cL_law 274 = .ok (.iconst 2, 1) := by decide +kernel
theorem dL_law_275 : decode cL_law 275 = .ok (.iadd, 1) := by decide +kernel
theorem dL_law_276 : decode cL_law 276 = .ok (.iaload, 1) := by decide +kernel
theorem dL_law_277 : decode cL_law 277 = .ok (.ifCond .eq 7, 3) := by decide +kernel
theorem dL_law_280 : decode cL_law 280 = .ok (.iconst 1, 1) := by decide +kernel
theorem dL_law_281 : decode cL_law 281 = .ok (.goto 4, 3) := by decide +kernel
theorem dL_law_284 : decode cL_law 284 = .ok (.iconst 0, 1) := by decide +kernel
theorem dL_law_285 : decode cL_law 285 = .ok (.invokevirtual 44, 3) := by decide +kernel
theorem dL_law_288 : decode cL_law 288 = .ok (.if_icmp .eq 312, 3) := by decide +kernel
theorem dL_law_291 : decode cL_law 291 = .ok (.iconst 0, 1) := by decide +kernel
theorem dL_law_292 : decode cL_law 292 = .ok (.ireturn, 1) := by decide +kernel
theorem dL_law_293 : decode cL_law 293 = .ok (.aload_n 1, 1) := by decide +kernel
theorem dL_law_294 : decode cL_law 294 = .ok (.aload_n 0, 1) := by decide +kernel
theorem dL_law_295 : decode cL_law 295 = .ok (.iload_n 3, 1) := by decide +kernel
theorem dL_law_296 : decode cL_law 296 = .ok (.iconst 1, 1) := by decide +kernel
theorem dL_law_297 : decode cL_law 297 = .ok (.iadd, 1) := by decide +kernel
theorem dL_law_298 : decode cL_law 298 = .ok (.iaload, 1) := by decide +kernel
theorem dL_law_299 : decode cL_law 299 = .ok (.aload_n 0, 1) := by decide +kernel
theorem dL_law_300 : decode cL_law 300 = .ok (.iload_n 3, 1) := by decide +kernel
theorem dL_law_301 : decode cL_law 301 = .ok (.iconst 2, 1) := by decide +kernel
theorem dL_law_302 : decode cL_law 302 = .ok (.iadd, 1) := by decide +kernel
theorem dL_law_303 : decode cL_law 303 = .ok (.iaload, 1) := by decide +kernel
theorem dL_law_304 : decode cL_law 304 = .ok (.aload_n 0, 1) := by decide +kernel
theorem dL_law_305 : decode cL_law 305 = .ok (.iload_n 3, 1) := by decide +kernel
theorem dL_law_306 : decode cL_law 306 = .ok (.iconst 3, 1) := by decide +kernel
theorem dL_law_307 : decode cL_law 307 = .ok (.iadd, 1) := by decide +kernel
theorem dL_law_308 : decode cL_law 308 = .ok (.iaload, 1) := by decide +kernel
theorem dL_law_309 : decode cL_law 309 = .ok (.aload_n 0, 1) := by decide +kernel
theorem dL_law_310 : decode cL_law 310 = .ok (.iload_n 3, 1) := by decide +kernel
theorem dL_law_311 : decode cL_law 311 = .ok (.iconst 4, 1) := by decide +kernel
theorem dL_law_312 : decode cL_law 312 = .ok (.iadd, 1) := by decide +kernel
theorem dL_law_313 : decode cL_law 313 = .ok (.iaload, 1) := by decide +kernel
theorem dL_law_314 : decode cL_law 314 = .ok (.ifCond .eq 7, 3) := by decide +kernel
theorem dL_law_317 : decode cL_law 317 = .ok (.iconst 1, 1) := by decide +kernel
theorem dL_law_318 : decode cL_law 318 = .ok (.goto 4, 3) := by decide +kernel
theorem dL_law_321 : decode cL_law 321 = .ok (.iconst 0, 1) := by decide +kernel
theorem dL_law_322 : decode cL_law 322 = .ok (.invokevirtual 45, 3) := by decide +kernel
theorem dL_law_325 : decode cL_law 325 = .ok (.aload_n 2, 1) := by decide +kernel
theorem dL_law_326 : decode cL_law 326 = .ok (.aload_n 0, 1) := by decide +kernel
theorem dL_law_327 : decode cL_law 327 = .ok (.iload_n 3, 1) := by decide +kernel
theorem dL_law_328 : decode cL_law 328 = .ok (.iconst 1, 1) := by decide +kernel
theorem dL_law_329 : decode cL_law 329 = .ok (.iadd, 1) := by decide +kernel
theorem dL_law_330 : decode cL_law 330 = .ok (.iaload, 1) := by decide +kernel
theorem dL_law_331 : decode cL_law 331 = .ok (.aload_n 0, 1) := by decide +kernel
theorem dL_law_332 : decode cL_law 332 = .ok (.iload_n 3, 1) := by decide +kernel
theorem dL_law_333 : decode cL_law 333 = .ok (.iconst 2, 1) := by decide +kernel
theorem dL_law_334 : decode cL_law 334 = .ok (.iadd, 1) := by decide +kernel
theorem dL_law_335 : decode cL_law 335 = .ok (.iaload, 1) := by decide +kernel
theorem dL_law_336 : decode cL_law 336 = .ok (.aload_n 0, 1) := by decide +kernel
theorem dL_law_337 : decode cL_law 337 = .ok (.iload_n 3, 1) := by decide +kernel
theorem dL_law_338 : decode cL_law 338 = .ok (.iconst 3, 1) := by decide +kernel
theorem dL_law_339 : decode cL_law 339 = .ok (.iadd, 1) := by decide +kernel
theorem dL_law_340 : decode cL_law 340 = .ok (.iaload, 1) := by decide +kernel
theorem dL_law_341 : decode cL_law 341 = .ok (.aload_n 0, 1) := by decide +kernel
theorem dL_law_342 : decode cL_law 342 = .ok (.iload_n 3, 1) := by decide +kernel
theorem dL_law_343 : decode cL_law 343 = .ok (.iconst 4, 1) := by decide +kernel
theorem dL_law_344 : decode cL_law 344 = .ok (.iadd, 1) := by decide +kernel
theorem dL_law_345 : decode cL_law 345 = .ok (.iaload, 1) := by decide +kernel
theorem dL_law_346 : decode cL_law 346 = .ok (.ifCond .eq 7, 3) := by decide +kernel
theorem dL_law_349 : decode cL_law 349 = .ok (.iconst 1, 1) := by decide +kernel
theorem dL_law_350 : decode cL_law 350 = .ok (.goto 4, 3) := by decide +kernel
theorem dL_law_353 : decode cL_law 353 = .ok (.iconst 0, 1) := by decide +kernel
theorem dL_law_354 : decode cL_law 354 = .ok (.invokevirtual 49, 3) := by decide +kernel
theorem dL_law_357 : decode cL_law 357 = .ok (.if_icmp .eq 243, 3) := by decide +kernel
theorem dL_law_360 : decode cL_law 360 = .ok (.iconst 0, 1) := by decide +kernel
theorem dL_law_361 : decode cL_law 361 = .ok (.ireturn, 1) := by decide +kernel
theorem dL_law_362 : decode cL_law 362 = .ok (.aload_n 1, 1) := by decide +kernel
theorem dL_law_363 : decode cL_law 363 = .ok (.aload_n 0, 1) := by decide +kernel
theorem dL_law_364 : decode cL_law 364 = .ok (.iload_n 3, 1) := by decide +kernel
theorem dL_law_365 : decode cL_law 365 = .ok (.iconst 1, 1) := by decide +kernel
theorem dL_law_366 : decode cL_law 366 = .ok (.iadd, 1) := by decide +kernel
theorem dL_law_367 : decode cL_law 367 = .ok (.iaload, 1) := by decide +kernel
theorem dL_law_368 : decode cL_law 368 = .ok (.aload_n 0, 1) := by decide +kernel
theorem dL_law_369 : decode cL_law 369 = .ok (.iload_n 3, 1) := by decide +kernel
theorem dL_law_370 : decode cL_law 370 = .ok (.iconst 2, 1) := by decide +kernel
theorem dL_law_371 : decode cL_law 371 = .ok (.iadd, 1) := by decide +kernel
theorem dL_law_372 : decode cL_law 372 = .ok (.iaload, 1) := by decide +kernel
theorem dL_law_373 : decode cL_law 373 = .ok (.invokevirtual 50, 3) := by decide +kernel
theorem dL_law_376 : decode cL_law 376 = .ok (.aload_n 2, 1) := by decide +kernel
theorem dL_law_377 : decode cL_law 377 = .ok (.aload_n 0, 1) := by decide +kernel
theorem dL_law_378 : decode cL_law 378 = .ok (.iload_n 3, 1) := by decide +kernel
theorem dL_law_379 : decode cL_law 379 = .ok (.iconst 1, 1) := by decide +kernel
theorem dL_law_380 : decode cL_law 380 = .ok (.iadd, 1) := by decide +kernel
theorem dL_law_381 : decode cL_law 381 = .ok (.iaload, 1) := by decide +kernel
theorem dL_law_382 : decode cL_law 382 = .ok (.aload_n 0, 1) := by decide +kernel
theorem dL_law_383 : decode cL_law 383 = .ok (.iload_n 3, 1) := by decide +kernel
theorem dL_law_384 : decode cL_law 384 = .ok (.iconst 2, 1) := by decide +kernel
theorem dL_law_385 : decode cL_law 385 = .ok (.iadd, 1) := by decide +kernel
theorem dL_law_386 : decode cL_law 386 = .ok (.iaload, 1) := by decide +kernel
theorem dL_law_387 : decode cL_law 387 = .ok (.invokevirtual 53, 3) := by decide +kernel
theorem dL_law_390 : decode cL_law 390 = .ok (.if_icmp .eq 210, 3) := by decide +kernel
theorem dL_law_393 : decode cL_law 393 = .ok (.iconst 0, 1) := by decide +kernel
theorem dL_law_394 : decode cL_law 394 = .ok (.ireturn, 1) := by decide +kernel
theorem dL_law_395 : decode cL_law 395 = .ok (.aload_n 1, 1) := by decide +kernel
theorem dL_law_396 : decode cL_law 396 = .ok (.aload_n 0, 1) := by decide +kernel
theorem dL_law_397 : decode cL_law 397 = .ok (.iload_n 3, 1) := by decide +kernel
theorem dL_law_398 : decode cL_law 398 = .ok (.iconst 1, 1) := by decide +kernel
theorem dL_law_399 : decode cL_law 399 = .ok (.iadd, 1) := by decide +kernel
theorem dL_law_400 : decode cL_law 400 = .ok (.iaload, 1) := by decide +kernel
theorem dL_law_401 : decode cL_law 401 = .ok (.aload_n 0, 1) := by decide +kernel
theorem dL_law_402 : decode cL_law 402 = .ok (.iload_n 3, 1) := by decide +kernel
theorem dL_law_403 : decode cL_law 403 = .ok (.iconst 2, 1) := by decide +kernel
theorem dL_law_404 : decode cL_law 404 = .ok (.iadd, 1) := by decide +kernel
theorem dL_law_405 : decode cL_law 405 = .ok (.iaload, 1) := by decide +kernel
theorem dL_law_406 : decode cL_law 406 = .ok (.invokevirtual 54, 3) := by decide +kernel
theorem dL_law_409 : decode cL_law 409 = .ok (.aload_n 2, 1) := by decide +kernel
theorem dL_law_410 : decode cL_law 410 = .ok (.aload_n 0, 1) := by decide +kernel
theorem dL_law_411 : decode cL_law 411 = .ok (.iload_n 3, 1) := by decide +kernel
theorem dL_law_412 : decode cL_law 412 = .ok (.iconst 1, 1) := by decide +kernel
theorem dL_law_413 : decode cL_law 413 = .ok (.iadd, 1) := by decide +kernel
theorem dL_law_414 : decode cL_law 414 = .ok (.iaload, 1) := by decide +kernel
theorem dL_law_415 : decode cL_law 415 = .ok (.aload_n 0, 1) := by decide +kernel
theorem dL_law_416 : decode cL_law 416 = .ok (.iload_n 3, 1) := by decide +kernel
theorem dL_law_417 : decode cL_law 417 = .ok (.iconst 2, 1) := by decide +kernel
theorem dL_law_418 : decode cL_law 418 = .ok (.iadd, 1) := by decide +kernel
theorem dL_law_419 : decode cL_law 419 = .ok (.iaload, 1) := by decide +kernel
theorem dL_law_420 : decode cL_law 420 = .ok (.invokevirtual 57, 3) := by decide +kernel
theorem dL_law_423 : decode cL_law 423 = .ok (.if_icmp .eq 177, 3) := by decide +kernel
theorem dL_law_426 : decode cL_law 426 = .ok (.iconst 0, 1) := by decide +kernel
theorem dL_law_427 : decode cL_law 427 = .ok (.ireturn, 1) := by decide +kernel
theorem dL_law_428 : decode cL_law 428 = .ok (.aload_n 1, 1) := by decide +kernel
theorem dL_law_429 : decode cL_law 429 = .ok (.aload_n 0, 1) := by decide +kernel
theorem dL_law_430 : decode cL_law 430 = .ok (.iload_n 3, 1) := by decide +kernel
theorem dL_law_431 : decode cL_law 431 = .ok (.iconst 1, 1) := by decide +kernel
theorem dL_law_432 : decode cL_law 432 = .ok (.iadd, 1) := by decide +kernel
theorem dL_law_433 : decode cL_law 433 = .ok (.iaload, 1) := by decide +kernel
theorem dL_law_434 : decode cL_law 434 = .ok (.aload_n 0, 1) := by decide +kernel
theorem dL_law_435 : decode cL_law 435 = .ok (.iload_n 3, 1) := by decide +kernel
theorem dL_law_436 : decode cL_law 436 = .ok (.iconst 2, 1) := by decide +kernel
theorem dL_law_437 : decode cL_law 437 = .ok (.iadd, 1) := by decide +kernel
theorem dL_law_438 : decode cL_law 438 = .ok (.iaload, 1) := by decide +kernel
theorem dL_law_439 : decode cL_law 439 = .ok (.invokevirtual 58, 3) := by decide +kernel
theorem dL_law_442 : decode cL_law 442 = .ok (.aload_n 2, 1) := by decide +kernel
theorem dL_law_443 : decode cL_law 443 = .ok (.aload_n 0, 1) := by decide +kernel
theorem dL_law_444 : decode cL_law 444 = .ok (.iload_n 3, 1) := by decide +kernel
theorem dL_law_445 : decode cL_law 445 = .ok (.iconst 1, 1) := by decide +kernel
theorem dL_law_446 : decode cL_law 446 = .ok (.iadd, 1) := by decide +kernel
theorem dL_law_447 : decode cL_law 447 = .ok (.iaload, 1) := by decide +kernel
theorem dL_law_448 : decode cL_law 448 = .ok (.aload_n 0, 1) := by decide +kernel
theorem dL_law_449 : decode cL_law 449 = .ok (.iload_n 3, 1) := by decide +kernel
theorem dL_law_450 : decode cL_law 450 = .ok (.iconst 2, 1) := by decide +kernel
theorem dL_law_451 : decode cL_law 451 = .ok (.iadd, 1) := by decide +kernel
theorem dL_law_452 : decode cL_law 452 = .ok (.iaload, 1) := by decide +kernel
theorem dL_law_453 : decode cL_law 453 = .ok (.invokevirtual 61, 3) := by decide +kernel
theorem dL_law_456 : decode cL_law 456 = .ok (.if_icmp .eq 144, 3) := by decide +kernel
theorem dL_law_459 : decode cL_law 459 = .ok (.iconst 0, 1) := by decide +kernel
theorem dL_law_460 : decode cL_law 460 = .ok (.ireturn, 1) := by decide +kernel
theorem dL_law_461 : decode cL_law 461 = .ok (.aload_n 1, 1) := by decide +kernel
theorem dL_law_462 : decode cL_law 462 = .ok (.aload_n 0, 1) := by decide +kernel
theorem dL_law_463 : decode cL_law 463 = .ok (.iload_n 3, 1) := by decide +kernel
theorem dL_law_464 : decode cL_law 464 = .ok (.iconst 1, 1) := by decide +kernel
theorem dL_law_465 : decode cL_law 465 = .ok (.iadd, 1) := by decide +kernel
theorem dL_law_466 : decode cL_law 466 = .ok (.iaload, 1) := by decide +kernel
theorem dL_law_467 : decode cL_law 467 = .ok (.invokevirtual 62, 3) := by decide +kernel
theorem dL_law_470 : decode cL_law 470 = .ok (.aload_n 2, 1) := by decide +kernel
theorem dL_law_471 : decode cL_law 471 = .ok (.aload_n 0, 1) := by decide +kernel
theorem dL_law_472 : decode cL_law 472 = .ok (.iload_n 3, 1) := by decide +kernel
theorem dL_law_473 : decode cL_law 473 = .ok (.iconst 1, 1) := by decide +kernel
theorem dL_law_474 : decode cL_law 474 = .ok (.iadd, 1) := by decide +kernel
theorem dL_law_475 : decode cL_law 475 = .ok (.iaload, 1) := by decide +kernel
theorem dL_law_476 : decode cL_law 476 = .ok (.invokevirtual 65, 3) := by decide +kernel
theorem dL_law_479 : decode cL_law 479 = .ok (.if_icmp .eq 121, 3) := by decide +kernel
theorem dL_law_482 : decode cL_law 482 = .ok (.iconst 0, 1) := by decide +kernel
theorem dL_law_483 : decode cL_law 483 = .ok (.ireturn, 1) := by decide +kernel
theorem dL_law_484 : decode cL_law 484 = .ok (.aload_n 1, 1) := by decide +kernel
theorem dL_law_485 : decode cL_law 485 = .ok (.aload_n 0, 1) := by decide +kernel
theorem dL_law_486 : decode cL_law 486 = .ok (.iload_n 3, 1) := by decide +kernel
theorem dL_law_487 : decode cL_law 487 = .ok (.iconst 1, 1) := by decide +kernel
theorem dL_law_488 : decode cL_law 488 = .ok (.iadd, 1) := by decide +kernel
theorem dL_law_489 : decode cL_law 489 = .ok (.iaload, 1) := by decide +kernel
theorem dL_law_490 : decode cL_law 490 = .ok (.invokevirtual 66, 3) := by decide +kernel
theorem dL_law_493 : decode cL_law 493 = .ok (.aload_n 2, 1) := by decide +kernel
theorem dL_law_494 : decode cL_law 494 = .ok (.aload_n 0, 1) := by decide +kernel
theorem dL_law_495 : decode cL_law 495 = .ok (.iload_n 3, 1) := by decide +kernel
theorem dL_law_496 : decode cL_law 496 = .ok (.iconst 1, 1) := by decide +kernel
theorem dL_law_497 : decode cL_law 497 = .ok (.iadd, 1) := by decide +kernel
theorem dL_law_498 : decode cL_law 498 = .ok (.iaload, 1) := by decide +kernel
theorem dL_law_499 : decode cL_law 499 = .ok (.invokevirtual 69, 3) := by decide +kernel
theorem dL_law_502 : decode cL_law 502 = .ok (.if_icmp .eq 98, 3) := by decide +kernel
theorem dL_law_505 : decode cL_law 505 = .ok (.iconst 0, 1) := by decide +kernel
theorem dL_law_506 : decode cL_law 506 = .ok (.ireturn, 1) := by decide +kernel
theorem dL_law_507 : decode cL_law 507 = .ok (.aload_n 1, 1) := by decide +kernel
theorem dL_law_508 : decode cL_law 508 = .ok (.aload_n 0, 1) := by decide +kernel
theorem dL_law_509 : decode cL_law 509 = .ok (.iload_n 3, 1) := by decide +kernel
theorem dL_law_510 : decode cL_law 510 = .ok (.iconst 1, 1) := by decide +kernel
theorem dL_law_511 : decode cL_law 511 = .ok (.iadd, 1) := by decide +kernel
theorem dL_law_512 : decode cL_law 512 = .ok (.iaload, 1) := by decide +kernel
theorem dL_law_513 : decode cL_law 513 = .ok (.aload_n 0, 1) := by decide +kernel
theorem dL_law_514 : decode cL_law 514 = .ok (.iload_n 3, 1) := by decide +kernel
theorem dL_law_515 : decode cL_law 515 = .ok (.iconst 2, 1) := by decide +kernel
theorem dL_law_516 : decode cL_law 516 = .ok (.iadd, 1) := by decide +kernel
theorem dL_law_517 : decode cL_law 517 = .ok (.iaload, 1) := by decide +kernel
theorem dL_law_518 : decode cL_law 518 = .ok (.invokevirtual 70, 3) := by decide +kernel
theorem dL_law_521 : decode cL_law 521 = .ok (.aload_n 2, 1) := by decide +kernel
theorem dL_law_522 : decode cL_law 522 = .ok (.aload_n 0, 1) := by decide +kernel
theorem dL_law_523 : decode cL_law 523 = .ok (.iload_n 3, 1) := by decide +kernel
theorem dL_law_524 : decode cL_law 524 = .ok (.iconst 1, 1) := by decide +kernel
theorem dL_law_525 : decode cL_law 525 = .ok (.iadd, 1) := by decide +kernel
theorem dL_law_526 : decode cL_law 526 = .ok (.iaload, 1) := by decide +kernel
theorem dL_law_527 : decode cL_law 527 = .ok (.aload_n 0, 1) := by decide +kernel
theorem dL_law_528 : decode cL_law 528 = .ok (.iload_n 3, 1) := by decide +kernel
theorem dL_law_529 : decode cL_law 529 = .ok (.iconst 2, 1) := by decide +kernel
theorem dL_law_530 : decode cL_law 530 = .ok (.iadd, 1) := by decide +kernel
theorem dL_law_531 : decode cL_law 531 = .ok (.iaload, 1) := by decide +kernel
theorem dL_law_532 : decode cL_law 532 = .ok (.invokevirtual 73, 3) := by decide +kernel
theorem dL_law_535 : decode cL_law 535 = .ok (.if_icmp .eq 65, 3) := by decide +kernel
theorem dL_law_538 : decode cL_law 538 = .ok (.iconst 0, 1) := by decide +kernel
theorem dL_law_539 : decode cL_law 539 = .ok (.ireturn, 1) := by decide +kernel
theorem dL_law_540 : decode cL_law 540 = .ok (.aload_n 1, 1) := by decide +kernel
theorem dL_law_541 : decode cL_law 541 = .ok (.aload_n 0, 1) := by decide +kernel
theorem dL_law_542 : decode cL_law 542 = .ok (.iload_n 3, 1) := by decide +kernel
theorem dL_law_543 : decode cL_law 543 = .ok (.iconst 1, 1) := by decide +kernel
theorem dL_law_544 : decode cL_law 544 = .ok (.iadd, 1) := by decide +kernel
theorem dL_law_545 : decode cL_law 545 = .ok (.iaload, 1) := by decide +kernel
theorem dL_law_546 : decode cL_law 546 = .ok (.invokevirtual 74, 3) := by decide +kernel
theorem dL_law_549 : decode cL_law 549 = .ok (.aload_n 2, 1) := by decide +kernel
theorem dL_law_550 : decode cL_law 550 = .ok (.aload_n 0, 1) := by decide +kernel
theorem dL_law_551 : decode cL_law 551 = .ok (.iload_n 3, 1) := by decide +kernel
theorem dL_law_552 : decode cL_law 552 = .ok (.iconst 1, 1) := by decide +kernel
theorem dL_law_553 : decode cL_law 553 = .ok (.iadd, 1) := by decide +kernel
theorem dL_law_554 : decode cL_law 554 = .ok (.iaload, 1) := by decide +kernel
theorem dL_law_555 : decode cL_law 555 = .ok (.invokevirtual 77, 3) := by decide +kernel
theorem dL_law_558 : decode cL_law 558 = .ok (.if_icmp .eq 42, 3) := by decide +kernel
theorem dL_law_561 : decode cL_law 561 = .ok (.iconst 0, 1) := by decide +kernel
theorem dL_law_562 : decode cL_law 562 = .ok (.ireturn, 1) := by decide +kernel
theorem dL_law_563 : decode cL_law 563 = .ok (.aload_n 1, 1) := by decide +kernel
theorem dL_law_564 : decode cL_law 564 = .ok (.aload_n 0, 1) := by decide +kernel
theorem dL_law_565 : decode cL_law 565 = .ok (.iload_n 3, 1) := by decide +kernel
theorem dL_law_566 : decode cL_law 566 = .ok (.iconst 1, 1) := by decide +kernel
theorem dL_law_567 : decode cL_law 567 = .ok (.iadd, 1) := by decide +kernel
theorem dL_law_568 : decode cL_law 568 = .ok (.iaload, 1) := by decide +kernel
theorem dL_law_569 : decode cL_law 569 = .ok (.invokevirtual 78, 3) := by decide +kernel
theorem dL_law_572 : decode cL_law 572 = .ok (.aload_n 2, 1) := by decide +kernel
theorem dL_law_573 : decode cL_law 573 = .ok (.aload_n 0, 1) := by decide +kernel
theorem dL_law_574 : decode cL_law 574 = .ok (.iload_n 3, 1) := by decide +kernel
theorem dL_law_575 : decode cL_law 575 = .ok (.iconst 1, 1) := by decide +kernel
theorem dL_law_576 : decode cL_law 576 = .ok (.iadd, 1) := by decide +kernel
theorem dL_law_577 : decode cL_law 577 = .ok (.iaload, 1) := by decide +kernel
theorem dL_law_578 : decode cL_law 578 = .ok (.invokevirtual 81, 3) := by decide +kernel
theorem dL_law_581 : decode cL_law 581 = .ok (.if_icmp .eq 19, 3) := by decide +kernel
theorem dL_law_584 : decode cL_law 584 = .ok (.iconst 0, 1) := by decide +kernel
theorem dL_law_585 : decode cL_law 585 = .ok (.ireturn, 1) := by decide +kernel
theorem dL_law_586 : decode cL_law 586 = .ok (.aload_n 1, 1) := by decide +kernel
theorem dL_law_587 : decode cL_law 587 = .ok (.invokevirtual 82, 3) := by decide +kernel
theorem dL_law_590 : decode cL_law 590 = .ok (.aload_n 2, 1) := by decide +kernel
theorem dL_law_591 : decode cL_law 591 = .ok (.invokevirtual 86, 3) := by decide +kernel
theorem dL_law_594 : decode cL_law 594 = .ok (.lcmp, 1) := by decide +kernel
theorem dL_law_595 : decode cL_law 595 = .ok (.ifCond .eq 5, 3) := by decide +kernel
theorem dL_law_598 : decode cL_law 598 = .ok (.iconst 0, 1) := by decide +kernel
theorem dL_law_599 : decode cL_law 599 = .ok (.ireturn, 1) := by decide +kernel
theorem dL_law_600 : decode cL_law 600 = .ok (.iinc 3 5, 3) := by decide +kernel
theorem dL_law_603 : decode cL_law 603 = .ok (.goto (-585), 3) := by decide +kernel
theorem dL_law_606 : decode cL_law 606 = .ok (.iconst 1, 1) := by decide +kernel
theorem dL_law_607 : decode cL_law 607 = .ok (.ireturn, 1) := by decide +kernel
