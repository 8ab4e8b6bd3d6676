theorem dX7_init_0 : decode cX7_init 0 = .ok (.aload_n 0, 1) := by decide +kernel
theorem dX7_init_1 : decode cX7_init 1 = .ok (.invokespecial 1, 3) := by decide +kernel
theorem dX7_init_4 : decode cX7_init 4 = .ok (.aload_n 0, 1) := by decide +kernel
theorem dX7_init_5 : decode cX7_init 5 = .ok (.bipush 30, 2) := by decide +kernel
theorem dX7_init_7 : decode cX7_init 7 = .ok (.newarray .int, 2) := by decide +kernel
theorem dX7_init_9 : decode cX7_init 9 = .ok (.putfield 7, 3) := by decide +kernel
theorem dX7_init_12 : decode cX7_init 12 = .ok (.aload_n 0, 1) := by decide +kernel
theorem dX7_init_13 : decode cX7_init 13 = .ok (.sipush 7560, 3) := by decide +kernel
theorem dX7_init_16 : decode cX7_init 16 = .ok (.newarray .int, 2) := by decide +kernel
theorem dX7_init_18 : decode cX7_init 18 = .ok (.putfield 13, 3) := by decide +kernel
theorem dX7_init_21 : decode cX7_init 21 = .ok (.aload_n 0, 1) := by decide +kernel
theorem dX7_init_22 : decode cX7_init 22 = .ok (.sipush 252, 3) := by decide +kernel
theorem dX7_init_25 : decode cX7_init 25 = .ok (.newarray .int, 2) := by decide +kernel
theorem dX7_init_27 : decode cX7_init 27 = .ok (.putfield 16, 3) := by decide +kernel
theorem dX7_init_30 : decode cX7_init 30 = .ok (.aload_n 0, 1) := by decide +kernel
theorem dX7_init_31 : decode cX7_init 31 = .ok (.sipush 252, 3) := by decide +kernel
theorem dX7_init_34 : decode cX7_init 34 = .ok (.newarray .int, 2) := by decide +kernel
theorem dX7_init_36 : decode cX7_init 36 = .ok (.putfield 19, 3) := by decide +kernel
theorem dX7_init_39 : decode cX7_init 39 = .ok (.aload_n 0, 1) := by decide +kernel
theorem dX7_init_40 : decode cX7_init 40 = .ok (.bipush 12, 2) := by decide +kernel
theorem dX7_init_42 : decode cX7_init 42 = .ok (.newarray .int, 2) := by decide +kernel
theorem dX7_init_44 : decode cX7_init 44 = .ok (.putfield 22, 3) := by decide +kernel
theorem dX7_init_47 : decode cX7_init 47 = .ok (.aload_n 0, 1) := by decide +kernel
theorem dX7_init_48 : decode cX7_init 48 = .ok (.bipush 12, 2) := by decide +kernel
theorem dX7_init_50 : decode cX7_init 50 = .ok (.newarray .int, 2) := by decide +kernel
theorem dX7_init_52 : decode cX7_init 52 = .ok (.putfield 25, 3) := by decide +kernel
theorem dX7_init_55 : decode cX7_init 55 = .ok (.aload_n 0, 1) := by decide +kernel
theorem dX7_init_56 : decode cX7_init 56 = .ok (.bipush 6, 2) := by decide +kernel
theorem dX7_init_58 : decode cX7_init 58 = .ok (.newarray .int, 2) := by decide +kernel
theorem dX7_init_60 : decode cX7_init 60 = .ok (.putfield 28, 3) := by decide +kernel
theorem dX7_init_63 : decode cX7_init 63 = .ok (.aload_n 0, 1) := by decide +kernel
theorem dX7_init_64 : decode cX7_init 64 = .ok (.sipush 144, 3) := by decide +kernel
theorem dX7_init_67 : decode cX7_init 67 = .ok (.newarray .int, 2) := by decide +kernel
theorem dX7_init_69 : decode cX7_init 69 = .ok (.putfield 31, 3) := by decide +kernel
theorem dX7_init_72 : decode cX7_init 72 = .ok (.aload_n 0, 1) := by decide +kernel
theorem dX7_init_73 : decode cX7_init 73 = .ok (.bipush 12, 2) := by decide +kernel
theorem dX7_init_75 : decode cX7_init 75 = .ok (.newarray .int, 2) := by decide +kernel
theorem dX7_init_77 : decode cX7_init 77 = .ok (.putfield 34, 3) := by decide +kernel
theorem dX7_init_80 : decode cX7_init 80 = .ok (.aload_n 0, 1) := by decide +kernel
theorem dX7_init_81 : decode cX7_init 81 = .ok (.bipush 12, 2) := by decide +kernel
theorem dX7_init_83 : decode cX7_init 83 = .ok (.newarray .int, 2) := by decide +kernel
theorem dX7_init_85 : decode cX7_init 85 = .ok (.putfield 37, 3) := by decide +kernel
theorem dX7_init_88 : decode cX7_init 88 = .ok (.aload_n 0, 1) := by decide +kernel
theorem dX7_init_89 : decode cX7_init 89 = .ok (.bipush 12, 2) := by decide +kernel
theorem dX7_init_91 : decode cX7_init 91 = .ok (.newarray .int, 2) := by decide +kernel
theorem dX7_init_93 : decode cX7_init 93 = .ok (.putfield 40, 3) := by decide +kernel
theorem dX7_init_96 : decode cX7_init 96 = .ok (.aload_n 0, 1) := by decide +kernel
theorem dX7_init_97 : decode cX7_init 97 = .ok (.bipush 12, 2) := by decide +kernel
theorem dX7_init_99 : decode cX7_init 99 = .ok (.newarray .int, 2) := by decide +kernel
theorem dX7_init_101 : decode cX7_init 101 = .ok (.putfield 43, 3) := by decide +kernel
theorem dX7_init_104 : decode cX7_init 104 = .ok (.aload_n 0, 1) := by decide +kernel
theorem dX7_init_105 : decode cX7_init 105 = .ok (.sipush 128, 3) := by decide +kernel
theorem dX7_init_108 : decode cX7_init 108 = .ok (.newarray .int, 2) := by decide +kernel
theorem dX7_init_110 : decode cX7_init 110 = .ok (.putfield 46, 3) := by decide +kernel
theorem dX7_init_113 : decode cX7_init 113 = .ok (.aload_n 0, 1) := by decide +kernel
theorem dX7_init_114 : decode cX7_init 114 = .ok (.sipush 128, 3) := by decide +kernel
theorem dX7_init_117 : decode cX7_init 117 = .ok (.newarray .int, 2) := by decide +kernel
theorem dX7_init_119 : decode cX7_init 119 = .ok (.putfield 49, 3) := by decide +kernel
theorem dX7_init_122 : decode cX7_init 122 = .ok (.aload_n 0, 1) := by decide +kernel
theorem dX7_init_123 : decode cX7_init 123 = .ok (.sipush 128, 3) := by decide +kernel
theorem dX7_init_126 : decode cX7_init 126 = .ok (.newarray .int, 2) := by decide +kernel
theorem dX7_init_128 : decode cX7_init 128 = .ok (.putfield 52, 3) := by decide +kernel
theorem dX7_init_131 : decode cX7_init 131 = .ok (.aload_n 0, 1) := by decide +kernel
theorem dX7_init_132 : decode cX7_init 132 = .ok (.bipush 16, 2) := by decide +kernel
theorem dX7_init_134 : decode cX7_init 134 = .ok (.newarray .int, 2) := by decide +kernel
theorem dX7_init_136 : decode cX7_init 136 = .ok (.putfield 55, 3) := by decide +kernel
theorem dX7_init_139 : decode cX7_init 139 = .ok (.aload_n 0, 1) := by decide +kernel
theorem dX7_init_140 : decode cX7_init 140 = .ok (.bipush 16, 2) := by decide +kernel
theorem dX7_init_142 : decode cX7_init 142 = .ok (.newarray .int, 2) := by decide +kernel
theorem dX7_init_144 : decode cX7_init 144 = .ok (.putfield 58, 3) := by decide +kernel
theorem dX7_init_147 : decode cX7_init 147 = .ok (.aload_n 0, 1) := by decide +kernel
theorem dX7_init_148 : decode cX7_init 148 = .ok (.bipush 16, 2) := by decide +kernel
theorem dX7_init_150 : decode cX7_init 150 = .ok (.newarray .int, 2) := by decide +kernel
theorem dX7_init_152 : decode cX7_init 152 = .ok (.putfield 61, 3) := by decide +kernel
theorem dX7_init_155 : decode cX7_init 155 = .ok (.iconst 0, 1) := by decide +kernel
theorem dX7_init_156 : decode cX7_init 156 = .ok (.istore_n 1, 1) := by decide +kernel
theorem dX7_init_157 : decode cX7_init 157 = .ok (.iload_n 1, 1) := by decide +kernel
theorem dX7_init_158 : decode cX7_init 158 = .ok (.bipush 12, 2) := by decide +kernel
theorem dX7_init_160 : decode cX7_init 160 = .ok (.if_icmp .ge 19, 3) := by decide +kernel
theorem dX7_init_163 : decode cX7_init 163 = .ok (.aload_n 0, 1) := by decide +kernel
theorem dX7_init_164 : decode cX7_init 164 = .ok (.getfield 19, 3) := by decide +kernel
theorem dX7_init_167 : decode cX7_init 167 = .ok (.bipush 21, 2) := by decide +kernel
theorem dX7_init_169 : decode cX7_init 169 = .ok (.iload_n 1, 1) := by decide +kernel
theorem dX7_init_170 : decode cX7_init 170 = .ok (.imul, 1) := by decide +kernel
theorem dX7_init_171 : decode cX7_init 171 = .ok (.iconst 3, 1) := by decide +kernel
theorem dX7_init_172 : decode cX7_init 172 = .ok (.iastore, 1) := by decide +kernel
theorem dX7_init_173 : decode cX7_init 173 = .ok (.iinc 1 1, 3) := by decide +kernel
theorem dX7_init_176 : decode cX7_init 176 = .ok (.goto (-19), 3) := by decide +kernel
theorem dX7_init_179 : decode cX7_init 179 = .ok (.return_, 1) := by decide +kernel
theorem dX7_thrown_0 : decode cX7_thrown 0 = .ok (.aload_n 0, 1) := by decide +kernel
theorem dX7_thrown_1 : decode cX7_thrown 1 = .ok (.getfield 64, 3) := by decide +kernel
theorem dX7_thrown_4 : decode cX7_thrown 4 = .ok (.ireturn, 1) := by decide +kernel
theorem dX7_in_0 : decode cX7_in 0 = .ok (.iload_n 0, 1) := by decide +kernel
theorem dX7_in_1 : decode cX7_in 1 = .ok (.iload_n 1, 1) := by decide +kernel
theorem dX7_in_2 : decode cX7_in 2 = .ok (.if_icmp .lt 12, 3) := by decide +kernel
theorem dX7_in_5 : decode cX7_in 5 = .ok (.iload_n 0, 1) := by decide +kernel
theorem dX7_in_6 : decode cX7_in 6 = .ok (.iload_n 2, 1) := by decide +kernel
theorem dX7_in_7 : decode cX7_in 7 = .ok (.if_icmp .gt 7, 3) := by decide +kernel
theorem dX7_in_10 : decode cX7_in 10 = .ok (.iconst 1, 1) := by decide +kernel
theorem dX7_in_11 : decode cX7_in 11 = .ok (.goto 4, 3) := by decide +kernel
theorem dX7_in_14 : decode cX7_in 14 = .ok (.iconst 0, 1) := by decide +kernel
theorem dX7_in_15 : decode cX7_in 15 = .ok (.ireturn, 1) := by decide +kernel
theorem dX7_goes_0 : decode cX7_goes 0 = .ok (.aload_n 0, 1) := by decide +kernel
theorem dX7_goes_1 : decode cX7_goes 1 = .ok (.iload_n 1, 1) := by decide +kernel
theorem dX7_goes_2 : decode cX7_goes 2 = .ok (.ifCond .ne 7, 3) := by decide +kernel
theorem dX7_goes_5 : decode cX7_goes 5 = .ok (.iconst 1, 1) := by decide +kernel
theorem dX7_goes_6 : decode cX7_goes 6 = .ok (.goto 20, 3) := by decide +kernel
theorem dX7_goes_9 : decode cX7_goes 9 = .ok (.iload_n 2, 1) := by decide +kernel
theorem dX7_goes_10 : decode cX7_goes 10 = .ok (.ifCond .ne 7, 3) := by decide +kernel
theorem dX7_goes_13 : decode cX7_goes 13 = .ok (.iconst 2, 1) := by decide +kernel
theorem dX7_goes_14 : decode cX7_goes 14 = .ok (.goto 12, 3) := by decide +kernel
theorem dX7_goes_17 : decode cX7_goes 17 = .ok (.iload_n 3, 1) := by decide +kernel
theorem dX7_goes_18 : decode cX7_goes 18 = .ok (.ifCond .eq 7, 3) := by decide +kernel
theorem dX7_goes_21 : decode cX7_goes 21 = .ok (.iconst 0, 1) := by decide +kernel
theorem dX7_goes_22 : decode cX7_goes 22 = .ok (.goto 4, 3) := by decide +kernel
theorem dX7_goes_25 : decode cX7_goes 25 = .ok (.iconst 3, 1) := by decide +kernel
theorem dX7_goes_26 : decode cX7_goes 26 = .ok (.putfield 64, 3) := by decide +kernel
theorem dX7_goes_29 : decode cX7_goes 29 = .ok (.aload_n 0, 1) := by decide +kernel
theorem dX7_goes_30 : decode cX7_goes 30 = .ok (.getfield 64, 3) := by decide +kernel
theorem dX7_goes_33 : decode cX7_goes 33 = .ok (.ifCond .ne 7, 3) := by decide +kernel
theorem dX7_goes_36 : decode cX7_goes 36 = .ok (.iconst 1, 1) := by decide +kernel
theorem dX7_goes_37 : decode cX7_goes 37 = .ok (.goto 4, 3) := by decide +kernel
theorem dX7_goes_40 : decode cX7_goes 40 = .ok (.iconst 0, 1) := by decide +kernel
theorem dX7_goes_41 : decode cX7_goes 41 = .ok (.ireturn, 1) := by decide +kernel
theorem dX7_isPage_0 : decode cX7_isPage 0 = .ok (.iload_n 0, 1) := by decide +kernel
theorem dX7_isPage_1 : decode cX7_isPage 1 = .ok (.iconst 0, 1) := by decide +kernel
theorem dX7_isPage_2 : decode cX7_isPage 2 = .ok (.bipush 11, 2) := by decide +kernel
theorem dX7_isPage_4 : decode cX7_isPage 4 = .ok (.invokestatic 68, 3) := by decide +kernel
theorem dX7_isPage_7 : decode cX7_isPage 7 = .ok (.ireturn, 1) := by decide +kernel
theorem dX7_isUser_0 : decode cX7_isUser 0 = .ok (.iload_n 0, 1) := by decide +kernel
theorem dX7_isUser_1 : decode cX7_isUser 1 = .ok (.iconst 0, 1) := by decide +kernel
theorem dX7_isUser_2 : decode cX7_isUser 2 = .ok (.iconst 5, 1) := by decide +kernel
theorem dX7_isUser_3 : decode cX7_isUser 3 = .ok (.invokestatic 68, 3) := by decide +kernel
theorem dX7_isUser_6 : decode cX7_isUser 6 = .ok (.ireturn, 1) := by decide +kernel
theorem dX7_isLetter_0 : decode cX7_isLetter 0 = .ok (.iload_n 0, 1) := by decide +kernel
theorem dX7_isLetter_1 : decode cX7_isLetter 1 = .ok (.iconst 0, 1) := by decide +kernel
theorem dX7_isLetter_2 : decode cX7_isLetter 2 = .ok (.bipush 25, 2) := by decide +kernel
theorem dX7_isLetter_4 : decode cX7_isLetter 4 = .ok (.invokestatic 68, 3) := by decide +kernel
theorem dX7_isLetter_7 : decode cX7_isLetter 7 = .ok (.ireturn, 1) := by decide +kernel
theorem dX7_adds_0 : decode cX7_adds 0 = .ok (.aload_n 0, 1) := by decide +kernel
theorem dX7_adds_1 : decode cX7_adds 1 = .ok (.getfield 7, 3) := by decide +kernel
theorem dX7_adds_4 : decode cX7_adds 4 = .ok (.aload_n 0, 1) := by decide +kernel
theorem dX7_adds_5 : decode cX7_adds 5 = .ok (.getfield 72, 3) := by decide +kernel
theorem dX7_adds_8 : decode cX7_adds 8 = .ok (.sipush 10000, 3) := by decide +kernel
theorem dX7_adds_11 : decode cX7_adds 11 = .ok (.iload_n 1, 1) := by decide +kernel
theorem dX7_adds_12 : decode cX7_adds 12 = .ok (.imul, 1) := by decide +kernel
theorem dX7_adds_13 : decode cX7_adds 13 = .ok (.bipush 100, 2) := by decide +kernel
theorem dX7_adds_15 : decode cX7_adds 15 = .ok (.iload_n 2, 1) := by decide +kernel
theorem dX7_adds_16 : decode cX7_adds 16 = .ok (.imul, 1) := by decide +kernel
theorem dX7_adds_17 : decode cX7_adds 17 = .ok (.iadd, 1) := by decide +kernel
theorem dX7_adds_18 : decode cX7_adds 18 = .ok (.iload_n 3, 1) := by decide +kernel
theorem dX7_adds_19 : decode cX7_adds 19 = .ok (.iadd, 1) := by decide +kernel
theorem dX7_adds_20 : decode cX7_adds 20 = .ok (.iconst 1, 1) := by decide +kernel
theorem dX7_adds_21 : decode cX7_adds 21 = .ok (.iadd, 1) := by decide +kernel
theorem dX7_adds_22 : decode cX7_adds 22 = .ok (.iastore, 1) := by decide +kernel
theorem dX7_adds_23 : decode cX7_adds 23 = .ok (.aload_n 0, 1) := by decide +kernel
theorem dX7_adds_24 : decode cX7_adds 24 = .ok (.dup, 1) := by decide +kernel
theorem dX7_adds_25 : decode cX7_adds 25 = .ok (.getfield 72, 3) := by decide +kernel
theorem dX7_adds_28 : decode cX7_adds 28 = .ok (.iconst 1, 1) := by decide +kernel
theorem dX7_adds_29 : decode cX7_adds 29 = .ok (.iadd, 1) := by decide +kernel
theorem dX7_adds_30 : decode cX7_adds 30 = .ok (.putfield 72, 3) := by decide +kernel
theorem dX7_adds_33 : decode cX7_adds 33 = .ok (.aload_n 0, 1) := by decide +kernel
theorem dX7_adds_34 : decode cX7_adds 34 = .ok (.getfield 72, 3) := by decide +kernel
theorem dX7_adds_37 : decode cX7_adds 37 = .ok (.ireturn, 1) := by decide +kernel
theorem dX7_hasRoom_0 : decode cX7_hasRoom 0 = .ok (.aload_n 0, 1) := by decide +kernel
theorem dX7_hasRoom_1 : decode cX7_hasRoom 1 = .ok (.getfield 72, 3) := by decide +kernel
theorem dX7_hasRoom_4 : decode cX7_hasRoom 4 = .ok (.bipush 30, 2) := by decide +kernel
theorem dX7_hasRoom_6 : decode cX7_hasRoom 6 = .ok (.if_icmp .ge 7, 3) := by decide +kernel
theorem dX7_hasRoom_9 : decode cX7_hasRoom 9 = .ok (.iconst 1, 1) := by decide +kernel
theorem dX7_hasRoom_10 : decode cX7_hasRoom 10 = .ok (.goto 4, 3) := by decide +kernel
theorem dX7_hasRoom_13 : decode cX7_hasRoom 13 = .ok (.iconst 0, 1) := by decide +kernel
theorem dX7_hasRoom_14 : decode cX7_hasRoom 14 = .ok (.ireturn, 1) := by decide +kernel
theorem dX7_letter_0 : decode cX7_letter 0 = .ok (.aload_n 0, 1) := by decide +kernel
theorem dX7_letter_1 : decode cX7_letter 1 = .ok (.iload_n 1, 1) := by decide +kernel
theorem dX7_letter_2 : decode cX7_letter 2 = .ok (.invokestatic 75, 3) := by decide +kernel
theorem dX7_letter_5 : decode cX7_letter 5 = .ok (.aload_n 0, 1) := by decide +kernel
theorem dX7_letter_6 : decode cX7_letter 6 = .ok (.invokevirtual 79, 3) := by decide +kernel
theorem dX7_letter_9 : decode cX7_letter 9 = .ok (.iconst 1, 1) := by decide +kernel
theorem dX7_letter_10 : decode cX7_letter 10 = .ok (.invokevirtual 83, 3) := by decide +kernel
theorem dX7_letter_13 : decode cX7_letter 13 = .ok (.ifCond .eq 13, 3) := by decide +kernel
theorem dX7_letter_16 : decode cX7_letter 16 = .ok (.aload_n 0, 1) := by decide +kernel
theorem dX7_letter_17 : decode cX7_letter 17 = .ok (.iconst 0, 1) := by decide +kernel
theorem dX7_letter_18 : decode cX7_letter 18 = .ok (.iload_n 1, 1) := by decide +kernel
theorem dX7_letter_19 : decode cX7_letter 19 = .ok (.iconst 0, 1) := by decide +kernel
theorem dX7_letter_20 : decode cX7_letter 20 = .ok (.invokevirtual 87, 3) := by decide +kernel
theorem dX7_letter_23 : decode cX7_letter 23 = .ok (.goto 4, 3) := by decide +kernel
theorem dX7_letter_26 : decode cX7_letter 26 = .ok (.iconst 0, 1) := by decide +kernel
theorem dX7_letter_27 : decode cX7_letter 27 = .ok (.ireturn, 1) := by decide +kernel
theorem dX7_argument_0 : decode cX7_argument 0 = .ok (.aload_n 0, 1) := by decide +kernel
theorem dX7_argument_1 : decode cX7_argument 1 = .ok (.aload_n 0, 1) := by decide +kernel
theorem dX7_argument_2 : decode cX7_argument 2 = .ok (.invokevirtual 79, 3) := by decide +kernel
theorem dX7_argument_5 : decode cX7_argument 5 = .ok (.iconst 1, 1) := by decide +kernel
theorem dX7_argument_6 : decode cX7_argument 6 = .ok (.iconst 1, 1) := by decide +kernel
theorem dX7_argument_7 : decode cX7_argument 7 = .ok (.invokevirtual 83, 3) := by decide +kernel
theorem dX7_argument_10 : decode cX7_argument 10 = .ok (.ifCond .eq 13, 3) := by decide +kernel
theorem dX7_argument_13 : decode cX7_argument 13 = .ok (.aload_n 0, 1) := by decide +kernel
theorem dX7_argument_14 : decode cX7_argument 14 = .ok (.iconst 1, 1) := by decide +kernel
theorem dX7_argument_15 : decode cX7_argument 15 = .ok (.iconst 0, 1) := by decide +kernel
theorem dX7_argument_16 : decode cX7_argument 16 = .ok (.iconst 0, 1) := by decide +kernel
theorem dX7_argument_17 : decode cX7_argument 17 = .ok (.invokevirtual 87, 3) := by decide +kernel
theorem dX7_argument_20 : decode cX7_argument 20 = .ok (.goto 4, 3) := by decide +kernel
theorem dX7_argument_23 : decode cX7_argument 23 = .ok (.iconst 0, 1) := by decide +kernel
theorem dX7_argument_24 : decode cX7_argument 24 = .ok (.ireturn, 1) := by decide +kernel
theorem dX7_call_0 : decode cX7_call 0 = .ok (.aload_n 0, 1) := by decide +kernel
theorem dX7_call_1 : decode cX7_call 1 = .ok (.iload_n 1, 1) := by decide +kernel
theorem dX7_call_2 : decode cX7_call 2 = .ok (.invokestatic 91, 3) := by decide +kernel
theorem dX7_call_5 : decode cX7_call 5 = .ok (.iload_n 2, 1) := by decide +kernel
theorem dX7_call_6 : decode cX7_call 6 = .ok (.iconst (-1), 1) := by decide +kernel
theorem dX7_call_7 : decode cX7_call 7 = .ok (.if_icmp .eq 10, 3) := by decide +kernel
theorem dX7_call_10 : decode cX7_call 10 = .ok (.iload_n 2, 1) := by decide +kernel
theorem dX7_call_11 : decode cX7_call 11 = .ok (.invokestatic 75, 3) := by decide +kernel
theorem dX7_call_14 : decode cX7_call 14 = .ok (.ifCond .eq 7, 3) := by decide +kernel
theorem dX7_call_17 : decode cX7_call 17 = .ok (.iconst 1, 1) := by decide +kernel
theorem dX7_call_18 : decode cX7_call 18 = .ok (.goto 4, 3) := by decide +kernel
theorem dX7_call_21 : decode cX7_call 21 = .ok (.iconst 0, 1) := by decide +kernel
theorem dX7_call_22 : decode cX7_call 22 = .ok (.aload_n 0, 1) := by decide +kernel
theorem dX7_call_23 : decode cX7_call 23 = .ok (.invokevirtual 79, 3) := by decide +kernel
theorem dX7_call_26 : decode cX7_call 26 = .ok (.invokevirtual 83, 3) := by decide +kernel
theorem dX7_call_29 : decode cX7_call 29 = .ok (.ifCond .eq 13, 3) := by decide +kernel
theorem dX7_call_32 : decode cX7_call 32 = .ok (.aload_n 0, 1) := by decide +kernel
theorem dX7_call_33 : decode cX7_call 33 = .ok (.iconst 2, 1) := by decide +kernel
theorem dX7_call_34 : decode cX7_call 34 = .ok (.iload_n 1, 1) := by decide +kernel
theorem dX7_call_35 : decode cX7_call 35 = .ok (.iload_n 2, 1) := by decide +kernel
theorem dX7_call_36 : decode cX7_call 36 = .ok (.invokevirtual 87, 3) := by decide +kernel
theorem dX7_call_39 : decode cX7_call 39 = .ok (.goto 4, 3) := by decide +kernel
theorem dX7_call_42 : decode cX7_call 42 = .ok (.iconst 0, 1) := by decide +kernel
theorem dX7_call_43 : decode cX7_call 43 = .ok (.ireturn, 1) := by decide +kernel
theorem dX7_callOn_0 : decode cX7_callOn 0 = .ok (.aload_n 0, 1) := by decide +kernel
theorem dX7_callOn_1 : decode cX7_callOn 1 = .ok (.iload_n 1, 1) := by decide +kernel
theorem dX7_callOn_2 : decode cX7_callOn 2 = .ok (.invokestatic 91, 3) := by decide +kernel
theorem dX7_callOn_5 : decode cX7_callOn 5 = .ok (.aload_n 0, 1) := by decide +kernel
theorem dX7_callOn_6 : decode cX7_callOn 6 = .ok (.invokevirtual 79, 3) := by decide +kernel
theorem dX7_callOn_9 : decode cX7_callOn 9 = .ok (.iconst 1, 1) := by decide +kernel
theorem dX7_callOn_10 : decode cX7_callOn 10 = .ok (.invokevirtual 83, 3) := by decide +kernel
theorem dX7_callOn_13 : decode cX7_callOn 13 = .ok (.ifCond .eq 13, 3) := by decide +kernel
theorem dX7_callOn_16 : decode cX7_callOn 16 = .ok (.aload_n 0, 1) := by decide +kernel
theorem dX7_callOn_17 : decode cX7_callOn 17 = .ok (.iconst 3, 1) := by decide +kernel
theorem dX7_callOn_18 : decode cX7_callOn 18 = .ok (.iload_n 1, 1) := by decide +kernel
theorem dX7_callOn_19 : decode cX7_callOn 19 = .ok (.iconst 0, 1) := by decide +kernel
theorem dX7_callOn_20 : decode cX7_callOn 20 = .ok (.invokevirtual 87, 3) := by decide +kernel
theorem dX7_callOn_23 : decode cX7_callOn 23 = .ok (.goto 4, 3) := by decide +kernel
theorem dX7_callOn_26 : decode cX7_callOn 26 = .ok (.iconst 0, 1) := by decide +kernel
theorem dX7_callOn_27 : decode cX7_callOn 27 = .ok (.ireturn, 1) := by decide +kernel
theorem dX7_when_0 : decode cX7_when 0 = .ok (.aload_n 0, 1) := by decide +kernel
theorem dX7_when_1 : decode cX7_when 1 = .ok (.iload_n 1, 1) := by decide +kernel
theorem dX7_when_2 : decode cX7_when 2 = .ok (.invokestatic 75, 3) := by decide +kernel
theorem dX7_when_5 : decode cX7_when 5 = .ok (.aload_n 0, 1) := by decide +kernel
theorem dX7_when_6 : decode cX7_when 6 = .ok (.invokevirtual 79, 3) := by decide +kernel
theorem dX7_when_9 : decode cX7_when 9 = .ok (.iconst 1, 1) := by decide +kernel
theorem dX7_when_10 : decode cX7_when 10 = .ok (.invokevirtual 83, 3) := by decide +kernel
theorem dX7_when_13 : decode cX7_when 13 = .ok (.ifCond .ne 5, 3) := by decide +kernel
theorem dX7_when_16 : decode cX7_when 16 = .ok (.iconst 0, 1) := by decide +kernel
theorem dX7_when_17 : decode cX7_when 17 = .ok (.ireturn, 1) := by decide +kernel
theorem dX7_when_18 : decode cX7_when 18 = .ok (.aload_n 0, 1) := by decide +kernel
theorem dX7_when_19 : decode cX7_when 19 = .ok (.dup, 1) := by decide +kernel
theorem dX7_when_20 : decode cX7_when 20 = .ok (.getfield 94, 3) := by decide +kernel
theorem dX7_when_23 : decode cX7_when 23 = .ok (.iconst 1, 1) := by decide +kernel
theorem dX7_when_24 : decode cX7_when 24 = .ok (.iadd, 1) := by decide +kernel
theorem dX7_when_25 : decode cX7_when 25 = .ok (.putfield 94, 3) := by decide +kernel
theorem dX7_when_28 : decode cX7_when 28 = .ok (.aload_n 0, 1) := by decide +kernel
theorem dX7_when_29 : decode cX7_when 29 = .ok (.iconst 4, 1) := by decide +kernel
theorem dX7_when_30 : decode cX7_when 30 = .ok (.iload_n 1, 1) := by decide +kernel
theorem dX7_when_31 : decode cX7_when 31 = .ok (.iconst 0, 1) := by decide +kernel
theorem dX7_when_32 : decode cX7_when 32 = .ok (.invokevirtual 87, 3) := by decide +kernel
theorem dX7_when_35 : decode cX7_when 35 = .ok (.ireturn, 1) := by decide +kernel
theorem dX7_end_0 : decode cX7_end 0 = .ok (.aload_n 0, 1) := by decide +kernel
theorem dX7_end_1 : decode cX7_end 1 = .ok (.aload_n 0, 1) := by decide +kernel
theorem dX7_end_2 : decode cX7_end 2 = .ok (.invokevirtual 79, 3) := by decide +kernel
theorem dX7_end_5 : decode cX7_end 5 = .ok (.ifCond .eq 14, 3) := by decide +kernel
theorem dX7_end_8 : decode cX7_end 8 = .ok (.aload_n 0, 1) := by decide +kernel
theorem dX7_end_9 : decode cX7_end 9 = .ok (.getfield 94, 3) := by decide +kernel
theorem dX7_end_12 : decode cX7_end 12 = .ok (.ifCond .le 7, 3) := by decide +kernel
theorem dX7_end_15 : decode cX7_end 15 = .ok (.iconst 1, 1) := by decide +kernel
theorem dX7_end_16 : decode cX7_end 16 = .ok (.goto 4, 3) := by decide +kernel
theorem dX7_end_19 : decode cX7_end 19 = .ok (.iconst 0, 1) := by decide +kernel
theorem dX7_end_20 : decode cX7_end 20 = .ok (.iconst 1, 1) := by decide +kernel
theorem dX7_end_21 : decode cX7_end 21 = .ok (.iconst 1, 1) := by decide +kernel
theorem dX7_end_22 : decode cX7_end 22 = .ok (.invokevirtual 83, 3) := by decide +kernel
theorem dX7_end_25 : decode cX7_end 25 = .ok (.ifCond .ne 5, 3) := by decide +kernel
theorem dX7_end_28 : decode cX7_end 28 = .ok (.iconst 0, 1) := by decide +kernel
theorem dX7_end_29 : decode cX7_end 29 = .ok (.ireturn, 1) := by decide +kernel
theorem dX7_end_30 : decode cX7_end 30 = .ok (.aload_n 0, 1) := by decide +kernel
theorem dX7_end_31 : decode cX7_end 31 = .ok (.dup, 1) := by decide +kernel
theorem dX7_end_32 : decode cX7_end 32 = .ok (.getfield 94, 3) := by decide +kernel
theorem dX7_end_35 : decode cX7_end 35 = .ok (.iconst 1, 1) := by decide +kernel
theorem dX7_end_36 : decode cX7_end 36 = .ok (.isub, 1) := by decide +kernel
theorem dX7_end_37 : decode cX7_end 37 = .ok (.putfield 94, 3) := by decide +kernel
theorem dX7_end_40 : decode cX7_end 40 = .ok (.aload_n 0, 1) := by decide +kernel
theorem dX7_end_41 : decode cX7_end 41 = .ok (.iconst 5, 1) := by decide +kernel
theorem dX7_end_42 : decode cX7_end 42 = .ok (.iconst 0, 1) := by decide +kernel
theorem dX7_end_43 : decode cX7_end 43 = .ok (.iconst 0, 1) := by decide +kernel
theorem dX7_end_44 : decode cX7_end 44 = .ok (.invokevirtual 87, 3) := by decide +kernel
theorem dX7_end_47 : decode cX7_end 47 = .ok (.ireturn, 1) := by decide +kernel
theorem dX7_anchor_0 : decode cX7_anchor 0 = .ok (.aload_n 0, 1) := by decide +kernel
theorem dX7_anchor_1 : decode cX7_anchor 1 = .ok (.iload_n 1, 1) := by decide +kernel
theorem dX7_anchor_2 : decode cX7_anchor 2 = .ok (.iconst 0, 1) := by decide +kernel
theorem dX7_anchor_3 : decode cX7_anchor 3 = .ok (.bipush 9, 2) := by decide +kernel
theorem dX7_anchor_5 : decode cX7_anchor 5 = .ok (.invokestatic 68, 3) := by decide +kernel
theorem dX7_anchor_8 : decode cX7_anchor 8 = .ok (.aload_n 0, 1) := by decide +kernel
theorem dX7_anchor_9 : decode cX7_anchor 9 = .ok (.invokevirtual 79, 3) := by decide +kernel
theorem dX7_anchor_12 : decode cX7_anchor 12 = .ok (.iconst 1, 1) := by decide +kernel
theorem dX7_anchor_13 : decode cX7_anchor 13 = .ok (.invokevirtual 83, 3) := by decide +kernel
theorem dX7_anchor_16 : decode cX7_anchor 16 = .ok (.ifCond .eq 14, 3) := by decide +kernel
theorem dX7_anchor_19 : decode cX7_anchor 19 = .ok (.aload_n 0, 1) := by decide +kernel
theorem dX7_anchor_20 : decode cX7_anchor 20 = .ok (.bipush 6, 2) := by decide +kernel
theorem dX7_anchor_22 : decode cX7_anchor 22 = .ok (.iload_n 1, 1) := by decide +kernel
theorem dX7_anchor_23 : decode cX7_anchor 23 = .ok (.iconst 0, 1) := by decide +kernel
theorem dX7_anchor_24 : decode cX7_anchor 24 = .ok (.invokevirtual 87, 3) := by decide +kernel
theorem dX7_anchor_27 : decode cX7_anchor 27 = .ok (.goto 4, 3) := by decide +kernel
theorem dX7_anchor_30 : decode cX7_anchor 30 = .ok (.iconst 0, 1) := by decide +kernel
theorem dX7_anchor_31 : decode cX7_anchor 31 = .ok (.ireturn, 1) := by decide +kernel
theorem dX7_link_0 : decode cX7_link 0 = .ok (.aload_n 0, 1) := by decide +kernel
theorem dX7_link_1 : decode cX7_link 1 = .ok (.iload_n 1, 1) := by decide +kernel
theorem dX7_link_2 : decode cX7_link 2 = .ok (.invokestatic 91, 3) := by decide +kernel
theorem dX7_link_5 : decode cX7_link 5 = .ok (.iload_n 2, 1) := by decide +kernel
theorem dX7_link_6 : decode cX7_link 6 = .ok (.iconst 0, 1) := by decide +kernel
theorem dX7_link_7 : decode cX7_link 7 = .ok (.bipush 9, 2) := by decide +kernel
theorem dX7_link_9 : decode cX7_link 9 = .ok (.invokestatic 68, 3) := by decide +kernel
theorem dX7_link_12 : decode cX7_link 12 = .ok (.aload_n 0, 1) := by decide +kernel
theorem dX7_link_13 : decode cX7_link 13 = .ok (.invokevirtual 79, 3) := by decide +kernel
theorem dX7_link_16 : decode cX7_link 16 = .ok (.invokevirtual 83, 3) := by decide +kernel
theorem dX7_link_19 : decode cX7_link 19 = .ok (.ifCond .eq 14, 3) := by decide +kernel
theorem dX7_link_22 : decode cX7_link 22 = .ok (.aload_n 0, 1) := by decide +kernel
theorem dX7_link_23 : decode cX7_link 23 = .ok (.bipush 7, 2) := by decide +kernel
theorem dX7_link_25 : decode cX7_link 25 = .ok (.iload_n 1, 1) := by decide +kernel
theorem dX7_link_26 : decode cX7_link 26 = .ok (.iload_n 2, 1) := by decide +kernel
theorem dX7_link_27 : decode cX7_link 27 = .ok (.invokevirtual 87, 3) := by decide +kernel
theorem dX7_link_30 : decode cX7_link 30 = .ok (.goto 4, 3) := by decide +kernel
theorem dX7_link_33 : decode cX7_link 33 = .ok (.iconst 0, 1) := by decide +kernel
theorem dX7_link_34 : decode cX7_link 34 = .ok (.ireturn, 1) := by decide +kernel
theorem dX7_redirect_0 : decode cX7_redirect 0 = .ok (.aload_n 0, 1) := by decide +kernel
theorem dX7_redirect_1 : decode cX7_redirect 1 = .ok (.iload_n 1, 1) := by decide +kernel
theorem dX7_redirect_2 : decode cX7_redirect 2 = .ok (.invokestatic 91, 3) := by decide +kernel
theorem dX7_redirect_5 : decode cX7_redirect 5 = .ok (.aload_n 0, 1) := by decide +kernel
theorem dX7_redirect_6 : decode cX7_redirect 6 = .ok (.invokevirtual 79, 3) := by decide +kernel
theorem dX7_redirect_9 : decode cX7_redirect 9 = .ok (.iconst 1, 1) := by decide +kernel
theorem dX7_redirect_10 : decode cX7_redirect 10 = .ok (.invokevirtual 83, 3) := by decide +kernel
theorem dX7_redirect_13 : decode cX7_redirect 13 = .ok (.ifCond .eq 14, 3) := by decide +kernel
theorem dX7_redirect_16 : decode cX7_redirect 16 = .ok (.aload_n 0, 1) := by decide +kernel
theorem dX7_redirect_17 : decode cX7_redirect 17 = .ok (.bipush 8, 2) := by decide +kernel
theorem dX7_redirect_19 : decode cX7_redirect 19 = .ok (.iload_n 1, 1) := by decide +kernel
theorem dX7_redirect_20 : decode cX7_redirect 20 = .ok (.iconst 0, 1) := by decide +kernel
theorem dX7_redirect_21 : decode cX7_redirect 21 = .ok (.invokevirtual 87, 3) := by decide +kernel
theorem dX7_redirect_24 : decode cX7_redirect 24 = .ok (.goto 4, 3) := by decide +kernel
theorem dX7_redirect_27 : decode cX7_redirect 27 = .ok (.iconst 0, 1) := by decide +kernel
theorem dX7_redirect_28 : decode cX7_redirect 28 = .ok (.ireturn, 1) := by decide +kernel
theorem dX7_now_0 : decode cX7_now 0 = .ok (.bipush 21, 2) := by decide +kernel
theorem dX7_now_2 : decode cX7_now 2 = .ok (.iload_n 1, 1) := by decide +kernel
theorem dX7_now_3 : decode cX7_now 3 = .ok (.imul, 1) := by decide +kernel
theorem dX7_now_4 : decode cX7_now 4 = .ok (.aload_n 0, 1) := by decide +kernel
theorem dX7_now_5 : decode cX7_now 5 = .ok (.getfield 22, 3) := by decide +kernel
theorem dX7_now_8 : decode cX7_now 8 = .ok (.iload_n 1, 1) := by decide +kernel
theorem dX7_now_9 : decode cX7_now 9 = .ok (.iaload, 1) := by decide +kernel
theorem dX7_now_10 : decode cX7_now 10 = .ok (.iadd, 1) := by decide +kernel
theorem dX7_now_11 : decode cX7_now 11 = .ok (.ireturn, 1) := by decide +kernel
theorem dX7_laysCalls_0 : decode cX7_laysCalls 0 = .ok (.iload_n 2, 1) := by decide +kernel
theorem dX7_laysCalls_1 : decode cX7_laysCalls 1 = .ok (.iconst (-1), 1) := by decide +kernel
theorem dX7_laysCalls_2 : decode cX7_laysCalls 2 = .ok (.if_icmp .ne 10, 3) := by decide +kernel
theorem dX7_laysCalls_5 : decode cX7_laysCalls 5 = .ok (.aload_n 0, 1) := by decide +kernel
theorem dX7_laysCalls_6 : decode cX7_laysCalls 6 = .ok (.getfield 72, 3) := by decide +kernel
theorem dX7_laysCalls_9 : decode cX7_laysCalls 9 = .ok (.goto 9, 3) := by decide +kernel
theorem dX7_laysCalls_12 : decode cX7_laysCalls 12 = .ok (.aload_n 0, 1) := by decide +kernel
theorem dX7_laysCalls_13 : decode cX7_laysCalls 13 = .ok (.getfield 16, 3) := by decide +kernel
theorem dX7_laysCalls_16 : decode cX7_laysCalls 16 = .ok (.iload_n 2, 1) := by decide +kernel
theorem dX7_laysCalls_17 : decode cX7_laysCalls 17 = .ok (.iaload, 1) := by decide +kernel
theorem dX7_laysCalls_18 : decode cX7_laysCalls 18 = .ok (.istore_n 3, 1) := by decide +kernel
theorem dX7_laysCalls_19 : decode cX7_laysCalls 19 = .ok (.aload_n 0, 1) := by decide +kernel
theorem dX7_laysCalls_20 : decode cX7_laysCalls 20 = .ok (.getfield 34, 3) := by decide +kernel
theorem dX7_laysCalls_23 : decode cX7_laysCalls 23 = .ok (.iload_n 1, 1) := by decide +kernel
theorem dX7_laysCalls_24 : decode cX7_laysCalls 24 = .ok (.iconst 0, 1) := by decide +kernel
theorem dX7_laysCalls_25 : decode cX7_laysCalls 25 = .ok (.iastore, 1) := by decide +kernel
theorem dX7_laysCalls_26 : decode cX7_laysCalls 26 = .ok (.iconst 0, 1) := by decide +kernel
theorem dX7_laysCalls_27 : decode cX7_laysCalls 27 = .ok (.istore 4, 2) := by decide +kernel
theorem dX7_laysCalls_29 : decode cX7_laysCalls 29 = .ok (.iload 4, 2) := by decide +kernel
theorem dX7_laysCalls_31 : decode cX7_laysCalls 31 = .ok (.bipush 12, 2) := by decide +kernel
theorem dX7_laysCalls_33 : decode cX7_laysCalls 33 = .ok (.if_icmp .ge 22, 3) := by decide +kernel
theorem dX7_laysCalls_36 : decode cX7_laysCalls 36 = .ok (.aload_n 0, 1) := by decide +kernel
theorem dX7_laysCalls_37 : decode cX7_laysCalls 37 = .ok (.getfield 31, 3) := by decide +kernel
theorem dX7_laysCalls_40 : decode cX7_laysCalls 40 = .ok (.bipush 12, 2) := by decide +kernel
theorem dX7_laysCalls_42 : decode cX7_laysCalls 42 = .ok (.iload_n 1, 1) := by decide +kernel
theorem dX7_laysCalls_43 : decode cX7_laysCalls 43 = .ok (.imul, 1) := by decide +kernel
theorem dX7_laysCalls_44 : decode cX7_laysCalls 44 = .ok (.iload 4, 2) := by decide +kernel
theorem dX7_laysCalls_46 : decode cX7_laysCalls 46 = .ok (.iadd, 1) := by decide +kernel
theorem dX7_laysCalls_47 : decode cX7_laysCalls 47 = .ok (.iconst 0, 1) := by decide +kernel
theorem dX7_laysCalls_48 : decode cX7_laysCalls 48 = .ok (.iastore, 1) := by decide +kernel
theorem dX7_laysCalls_49 : decode cX7_laysCalls 49 = .ok (.iinc 4 1, 3) := by decide +kernel
theorem dX7_laysCalls_52 : decode cX7_laysCalls 52 = .ok (.goto (-23), 3) := by decide +kernel
theorem dX7_laysCalls_55 : decode cX7_laysCalls 55 = .ok (.iconst 0, 1) := by decide +kernel
theorem dX7_laysCalls_56 : decode cX7_laysCalls 56 = .ok (.istore 4, 2) := by decide +kernel
theorem dX7_laysCalls_58 : decode cX7_laysCalls 58 = .ok (.iload 4, 2) := by decide +kernel
theorem dX7_laysCalls_60 : decode cX7_laysCalls 60 = .ok (.iload_n 3, 1) := by decide +kernel
theorem dX7_laysCalls_61 : decode cX7_laysCalls 61 = .ok (.if_icmp .ge 119, 3) := by decide +kernel
theorem dX7_laysCalls_64 : decode cX7_laysCalls 64 = .ok (.iload_n 2, 1) := by decide +kernel
theorem dX7_laysCalls_65 : decode cX7_laysCalls 65 = .ok (.iconst (-1), 1) := by decide +kernel
theorem dX7_laysCalls_66 : decode cX7_laysCalls 66 = .ok (.if_icmp .ne 13, 3) := by decide +kernel
theorem dX7_laysCalls_69 : decode cX7_laysCalls 69 = .ok (.aload_n 0, 1) := by decide +kernel
theorem dX7_laysCalls_70 : decode cX7_laysCalls 70 = .ok (.getfield 7, 3) := by decide +kernel
theorem dX7_laysCalls_73 : decode cX7_laysCalls 73 = .ok (.iload 4, 2) := by decide +kernel
theorem dX7_laysCalls_75 : decode cX7_laysCalls 75 = .ok (.iaload, 1) := by decide +kernel
theorem dX7_laysCalls_76 : decode cX7_laysCalls 76 = .ok (.goto 15, 3) := by decide +kernel
theorem dX7_laysCalls_79 : decode cX7_laysCalls 79 = .ok (.aload_n 0, 1) := by decide +kernel
theorem dX7_laysCalls_80 : decode cX7_laysCalls 80 = .ok (.getfield 13, 3) := by decide +kernel
theorem dX7_laysCalls_83 : decode cX7_laysCalls 83 = .ok (.bipush 30, 2) := by decide +kernel
theorem dX7_laysCalls_85 : decode cX7_laysCalls 85 = .ok (.iload_n 2, 1) := by decide +kernel
theorem dX7_laysCalls_86 : decode cX7_laysCalls 86 = .ok (.imul, 1) := by decide +kernel
theorem dX7_laysCalls_87 : decode cX7_laysCalls 87 = .ok (.iload 4, 2) := by decide +kernel
theorem dX7_laysCalls_89 : decode cX7_laysCalls 89 = .ok (.iadd, 1) := by decide +kernel
theorem dX7_laysCalls_90 : decode cX7_laysCalls 90 = .ok (.iaload, 1) := by decide +kernel
theorem dX7_laysCalls_91 : decode cX7_laysCalls 91 = .ok (.istore 5, 2) := by decide +kernel
theorem dX7_laysCalls_93 : decode cX7_laysCalls 93 = .ok (.iload 5, 2) := by decide +kernel
theorem dX7_laysCalls_95 : decode cX7_laysCalls 95 = .ok (.sipush 10000, 3) := by decide +kernel
theorem dX7_laysCalls_98 : decode cX7_laysCalls 98 = .ok (.idiv, 1) := by decide +kernel
theorem dX7_laysCalls_99 : decode cX7_laysCalls 99 = .ok (.istore 6, 2) := by decide +kernel
theorem dX7_laysCalls_101 : decode cX7_laysCalls 101 = .ok (.aload_n 0, 1) := by decide +kernel
theorem dX7_laysCalls_102 : decode cX7_laysCalls 102 = .ok (.getfield 34, 3) := by decide +kernel
theorem dX7_laysCalls_105 : decode cX7_laysCalls 105 = .ok (.iload_n 1, 1) := by decide +kernel
theorem dX7_laysCalls_106 : decode cX7_laysCalls 106 = .ok (.dup2, 1) := by decide +kernel
theorem dX7_laysCalls_107 : decode cX7_laysCalls 107 = .ok (.iaload, 1) := by decide +kernel
theorem dX7_laysCalls_108 : decode cX7_laysCalls 108 = .ok (.iload 6, 2) := by decide +kernel
theorem dX7_laysCalls_110 : decode cX7_laysCalls 110 = .ok (.ifCond .eq 23, 3) := by decide +kernel
theorem dX7_laysCalls_113 : decode cX7_laysCalls 113 = .ok (.iload 6, 2) := by decide +kernel
theorem dX7_laysCalls_115 : decode cX7_laysCalls 115 = .ok (.iconst 1, 1) := by decide +kernel
theorem dX7_laysCalls_116 : decode cX7_laysCalls 116 = .ok (.if_icmp .eq 17, 3) := by decide +kernel
theorem dX7_laysCalls_119 : decode cX7_laysCalls 119 = .ok (.iload 6, 2) := by decide +kernel
theorem dX7_laysCalls_121 : decode cX7_laysCalls 121 = .ok (.bipush 6, 2) := by decide +kernel
theorem dX7_laysCalls_123 : decode cX7_laysCalls 123 = .ok (.if_icmp .eq 10, 3) := by decide +kernel
theorem dX7_laysCalls_126 : decode cX7_laysCalls 126 = .ok (.iload 6, 2) := by decide +kernel
theorem dX7_laysCalls_128 : decode cX7_laysCalls 128 = .ok (.bipush 7, 2) := by decide +kernel
theorem dX7_laysCalls_130 : decode cX7_laysCalls 130 = .ok (.if_icmp .ne 7, 3) := by decide +kernel
theorem dX7_laysCalls_133 : decode cX7_laysCalls 133 = .ok (.iconst 1, 1) := by decide +kernel
theorem dX7_laysCalls_134 : decode cX7_laysCalls 134 = .ok (.goto 4, 3) := by decide +kernel
theorem dX7_laysCalls_137 : decode cX7_laysCalls 137 = .ok (.iconst 0, 1) := by decide +kernel
theorem dX7_laysCalls_138 : decode cX7_laysCalls 138 = .ok (.iadd, 1) := by decide +kernel
theorem dX7_laysCalls_139 : decode cX7_laysCalls 139 = .ok (.iastore, 1) := by decide +kernel
theorem dX7_laysCalls_140 : decode cX7_laysCalls 140 = .ok (.iload 6, 2) := by decide +kernel
theorem dX7_laysCalls_142 : decode cX7_laysCalls 142 = .ok (.iconst 2, 1) := by decide +kernel
theorem dX7_laysCalls_143 : decode cX7_laysCalls 143 = .ok (.if_icmp .eq 9, 3) := by decide +kernel
theorem dX7_laysCalls_146 : decode cX7_laysCalls 146 = .ok (.iload 6, 2) := by decide +kernel
theorem dX7_laysCalls_148 : decode cX7_laysCalls 148 = .ok (.iconst 3, 1) := by decide +kernel
theorem dX7_laysCalls_149 : decode cX7_laysCalls 149 = .ok (.if_icmp .ne 25, 3) := by decide +kernel
theorem dX7_laysCalls_152 : decode cX7_laysCalls 152 = .ok (.aload_n 0, 1) := by decide +kernel
theorem dX7_laysCalls_153 : decode cX7_laysCalls 153 = .ok (.getfield 31, 3) := by decide +kernel
theorem dX7_laysCalls_156 : decode cX7_laysCalls 156 = .ok (.bipush 12, 2) := by decide +kernel
theorem dX7_laysCalls_158 : decode cX7_laysCalls 158 = .ok (.iload_n 1, 1) := by decide +kernel
theorem dX7_laysCalls_159 : decode cX7_laysCalls 159 = .ok (.imul, 1) := by decide +kernel
theorem dX7_laysCalls_160 : decode cX7_laysCalls 160 = .ok (.iload 5, 2) := by decide +kernel
theorem dX7_laysCalls_162 : decode cX7_laysCalls 162 = .ok (.bipush 100, 2) := by decide +kernel
theorem dX7_laysCalls_164 : decode cX7_laysCalls 164 = .ok (.idiv, 1) := by decide +kernel
theorem dX7_laysCalls_165 : decode cX7_laysCalls 165 = .ok (.bipush 100, 2) := by decide +kernel
theorem dX7_laysCalls_167 : decode cX7_laysCalls 167 = .ok (.irem, 1) := by decide +kernel
theorem dX7_laysCalls_168 : decode cX7_laysCalls 168 = .ok (.iadd, 1) := by decide +kernel
theorem dX7_laysCalls_169 : decode cX7_laysCalls 169 = .ok (.dup2, 1) := by decide +kernel
theorem dX7_laysCalls_170 : decode cX7_laysCalls 170 = .ok (.iaload, 1) := by decide +kernel
theorem dX7_laysCalls_171 : decode cX7_laysCalls 171 = .ok (.iconst 1, 1) := by decide +kernel
theorem dX7_laysCalls_172 : decode cX7_laysCalls 172 = .ok (.iadd, 1) := by decide +kernel
theorem dX7_laysCalls_173 : decode cX7_laysCalls 173 = .ok (.iastore, 1) := by decide +kernel
theorem dX7_laysCalls_174 : decode cX7_laysCalls 174 = .ok (.iinc 4 1, 3) := by decide +kernel
theorem dX7_laysCalls_177 : decode cX7_laysCalls 177 = .ok (.goto (-119), 3) := by decide +kernel
theorem dX7_laysCalls_180 : decode cX7_laysCalls 180 = .ok (.return_, 1) := by decide +kernel
theorem dX7_laysReached_0 : decode cX7_laysReached 0 = .ok (.iconst 0, 1) := by decide +kernel
theorem dX7_laysReached_1 : decode cX7_laysReached 1 = .ok (.istore_n 1, 1) := by decide +kernel
theorem dX7_laysReached_2 : decode cX7_laysReached 2 = .ok (.iload_n 1, 1) := by decide +kernel
theorem dX7_laysReached_3 : decode cX7_laysReached 3 = .ok (.bipush 12, 2) := by decide +kernel
theorem dX7_laysReached_5 : decode cX7_laysReached 5 = .ok (.if_icmp .ge 16, 3) := by decide +kernel
theorem dX7_laysReached_8 : decode cX7_laysReached 8 = .ok (.aload_n 0, 1) := by decide +kernel
theorem dX7_laysReached_9 : decode cX7_laysReached 9 = .ok (.getfield 37, 3) := by decide +kernel
theorem dX7_laysReached_12 : decode cX7_laysReached 12 = .ok (.iload_n 1, 1) := by decide +kernel
theorem dX7_laysReached_13 : decode cX7_laysReached 13 = .ok (.iconst 0, 1) := by decide +kernel
theorem dX7_laysReached_14 : decode cX7_laysReached 14 = .ok (.iastore, 1) := by decide +kernel
theorem dX7_laysReached_15 : decode cX7_laysReached 15 = .ok (.iinc 1 1, 3) := by decide +kernel
theorem dX7_laysReached_18 : decode cX7_laysReached 18 = .ok (.goto (-16), 3) := by decide +kernel
theorem dX7_laysReached_21 : decode cX7_laysReached 21 = .ok (.iconst 0, 1) := by decide +kernel
theorem dX7_laysReached_22 : decode cX7_laysReached 22 = .ok (.istore_n 1, 1) := by decide +kernel
theorem dX7_laysReached_23 : decode cX7_laysReached 23 = .ok (.iload_n 1, 1) := by decide +kernel
theorem dX7_laysReached_24 : decode cX7_laysReached 24 = .ok (.bipush 12, 2) := by decide +kernel
theorem dX7_laysReached_26 : decode cX7_laysReached 26 = .ok (.if_icmp .ge 74, 3) := by decide +kernel
theorem dX7_laysReached_29 : decode cX7_laysReached 29 = .ok (.iconst 0, 1) := by decide +kernel
theorem dX7_laysReached_30 : decode cX7_laysReached 30 = .ok (.istore_n 2, 1) := by decide +kernel
theorem dX7_laysReached_31 : decode cX7_laysReached 31 = .ok (.iload_n 2, 1) := by decide +kernel
theorem dX7_laysReached_32 : decode cX7_laysReached 32 = .ok (.bipush 12, 2) := by decide +kernel
theorem dX7_laysReached_34 : decode cX7_laysReached 34 = .ok (.if_icmp .ge 60, 3) := by decide +kernel
theorem dX7_laysReached_37 : decode cX7_laysReached 37 = .ok (.iconst 0, 1) := by decide +kernel
theorem dX7_laysReached_38 : decode cX7_laysReached 38 = .ok (.istore_n 3, 1) := by decide +kernel
theorem dX7_laysReached_39 : decode cX7_laysReached 39 = .ok (.iload_n 3, 1) := by decide +kernel
theorem dX7_laysReached_40 : decode cX7_laysReached 40 = .ok (.bipush 12, 2) := by decide +kernel
theorem dX7_laysReached_42 : decode cX7_laysReached 42 = .ok (.if_icmp .ge 46, 3) := by decide +kernel
theorem dX7_laysReached_45 : decode cX7_laysReached 45 = .ok (.aload_n 0, 1) := by decide +kernel
theorem dX7_laysReached_46 : decode cX7_laysReached 46 = .ok (.getfield 37, 3) := by decide +kernel
theorem dX7_laysReached_49 : decode cX7_laysReached 49 = .ok (.iload_n 2, 1) := by decide +kernel
theorem dX7_laysReached_50 : decode cX7_laysReached 50 = .ok (.dup2, 1) := by decide +kernel
theorem dX7_laysReached_51 : decode cX7_laysReached 51 = .ok (.iaload, 1) := by decide +kernel
theorem dX7_laysReached_52 : decode cX7_laysReached 52 = .ok (.aload_n 0, 1) := by decide +kernel
theorem dX7_laysReached_53 : decode cX7_laysReached 53 = .ok (.getfield 31, 3) := by decide +kernel
theorem dX7_laysReached_56 : decode cX7_laysReached 56 = .ok (.bipush 12, 2) := by decide +kernel
theorem dX7_laysReached_58 : decode cX7_laysReached 58 = .ok (.iload_n 2, 1) := by decide +kernel
theorem dX7_laysReached_59 : decode cX7_laysReached 59 = .ok (.imul, 1) := by decide +kernel
theorem dX7_laysReached_60 : decode cX7_laysReached 60 = .ok (.iload_n 3, 1) := by decide +kernel
theorem dX7_laysReached_61 : decode cX7_laysReached 61 = .ok (.iadd, 1) := by decide +kernel
theorem dX7_laysReached_62 : decode cX7_laysReached 62 = .ok (.iaload, 1) := by decide +kernel
theorem dX7_laysReached_63 : decode cX7_laysReached 63 = .ok (.ifCond .le 16, 3) := by decide +kernel
theorem dX7_laysReached_66 : decode cX7_laysReached 66 = .ok (.aload_n 0, 1) := by decide +kernel
theorem dX7_laysReached_67 : decode cX7_laysReached 67 = .ok (.getfield 37, 3) := by decide +kernel
theorem dX7_laysReached_70 : decode cX7_laysReached 70 = .ok (.iload_n 3, 1) := by decide +kernel
theorem dX7_laysReached_71 : decode cX7_laysReached 71 = .ok (.iaload, 1) := by decide +kernel
theorem dX7_laysReached_72 : decode cX7_laysReached 72 = .ok (.iconst 1, 1) := by decide +kernel
theorem dX7_laysReached_73 : decode cX7_laysReached 73 = .ok (.iload_n 3, 1) := by decide +kernel
theorem dX7_laysReached_74 : decode cX7_laysReached 74 = .ok (.ishl, 1) := by decide +kernel
theorem dX7_laysReached_75 : decode cX7_laysReached 75 = .ok (.ior, 1) := by decide +kernel
theorem dX7_laysReached_76 : decode cX7_laysReached 76 = .ok (.goto 4, 3) := by decide +kernel
theorem dX7_laysReached_79 : decode cX7_laysReached 79 = .ok (.iconst 0, 1) := by decide +kernel
theorem dX7_laysReached_80 : decode cX7_laysReached 80 = .ok (.ior, 1) := by decide +kernel
theorem dX7_laysReached_81 : decode cX7_laysReached 81 = .ok (.iastore, 1) := by decide +kernel
theorem dX7_laysReached_82 : decode cX7_laysReached 82 = .ok (.iinc 3 1, 3) := by decide +kernel
theorem dX7_laysReached_85 : decode cX7_laysReached 85 = .ok (.goto (-46), 3) := by decide +kernel
theorem dX7_laysReached_88 : decode cX7_laysReached 88 = .ok (.iinc 2 1, 3) := by decide +kernel
theorem dX7_laysReached_91 : decode cX7_laysReached 91 = .ok (.goto (-60), 3) := by decide +kernel
theorem dX7_laysReached_94 : decode cX7_laysReached 94 = .ok (.iinc 1 1, 3) := by decide +kernel
theorem dX7_laysReached_97 : decode cX7_laysReached 97 = .ok (.goto (-74), 3) := by decide +kernel
theorem dX7_laysReached_100 : decode cX7_laysReached 100 = .ok (.return_, 1) := by decide +kernel
theorem dX7_laysNow_0 : decode cX7_laysNow 0 = .ok (.iconst 0, 1) := by decide +kernel
theorem dX7_laysNow_1 : decode cX7_laysNow 1 = .ok (.istore_n 1, 1) := by decide +kernel
theorem dX7_laysNow_2 : decode cX7_laysNow 2 = .ok (.iload_n 1, 1) := by decide +kernel
theorem dX7_laysNow_3 : decode cX7_laysNow 3 = .ok (.bipush 12, 2) := by decide +kernel
theorem dX7_laysNow_5 : decode cX7_laysNow 5 = .ok (.if_icmp .ge 19, 3) := by decide +kernel
theorem dX7_laysNow_8 : decode cX7_laysNow 8 = .ok (.aload_n 0, 1) := by decide +kernel
theorem dX7_laysNow_9 : decode cX7_laysNow 9 = .ok (.iload_n 1, 1) := by decide +kernel
theorem dX7_laysNow_10 : decode cX7_laysNow 10 = .ok (.aload_n 0, 1) := by decide +kernel
theorem dX7_laysNow_11 : decode cX7_laysNow 11 = .ok (.iload_n 1, 1) := by decide +kernel
theorem dX7_laysNow_12 : decode cX7_laysNow 12 = .ok (.invokevirtual 97, 3) := by decide +kernel
theorem dX7_laysNow_15 : decode cX7_laysNow 15 = .ok (.invokevirtual 101, 3) := by decide +kernel
theorem dX7_laysNow_18 : decode cX7_laysNow 18 = .ok (.iinc 1 1, 3) := by decide +kernel
theorem dX7_laysNow_21 : decode cX7_laysNow 21 = .ok (.goto (-19), 3) := by decide +kernel
theorem dX7_laysNow_24 : decode cX7_laysNow 24 = .ok (.aload_n 0, 1) := by decide +kernel
theorem dX7_laysNow_25 : decode cX7_laysNow 25 = .ok (.invokevirtual 105, 3) := by decide +kernel
theorem dX7_laysNow_28 : decode cX7_laysNow 28 = .ok (.return_, 1) := by decide +kernel
theorem dX7_measures_0 : decode cX7_measures 0 = .ok (.iconst 0, 1) := by decide +kernel
theorem dX7_measures_1 : decode cX7_measures 1 = .ok (.istore_n 1, 1) := by decide +kernel
theorem dX7_measures_2 : decode cX7_measures 2 = .ok (.iload_n 1, 1) := by decide +kernel
theorem dX7_measures_3 : decode cX7_measures 3 = .ok (.bipush 12, 2) := by decide +kernel
theorem dX7_measures_5 : decode cX7_measures 5 = .ok (.if_icmp .ge 23, 3) := by decide +kernel
theorem dX7_measures_8 : decode cX7_measures 8 = .ok (.aload_n 0, 1) := by decide +kernel
theorem dX7_measures_9 : decode cX7_measures 9 = .ok (.getfield 40, 3) := by decide +kernel
theorem dX7_measures_12 : decode cX7_measures 12 = .ok (.iload_n 1, 1) := by decide +kernel
theorem dX7_measures_13 : decode cX7_measures 13 = .ok (.iconst 0, 1) := by decide +kernel
theorem dX7_measures_14 : decode cX7_measures 14 = .ok (.iastore, 1) := by decide +kernel
theorem dX7_measures_15 : decode cX7_measures 15 = .ok (.aload_n 0, 1) := by decide +kernel
theorem dX7_measures_16 : decode cX7_measures 16 = .ok (.getfield 43, 3) := by decide +kernel
theorem dX7_measures_19 : decode cX7_measures 19 = .ok (.iload_n 1, 1) := by decide +kernel
theorem dX7_measures_20 : decode cX7_measures 20 = .ok (.iconst 0, 1) := by decide +kernel
theorem dX7_measures_21 : decode cX7_measures 21 = .ok (.iastore, 1) := by decide +kernel
theorem dX7_measures_22 : decode cX7_measures 22 = .ok (.iinc 1 1, 3) := by decide +kernel
theorem dX7_measures_25 : decode cX7_measures 25 = .ok (.goto (-23), 3) := by decide +kernel
theorem dX7_measures_28 : decode cX7_measures 28 = .ok (.iconst 0, 1) := by decide +kernel
theorem dX7_measures_29 : decode cX7_measures 29 = .ok (.istore_n 1, 1) := by decide +kernel
theorem dX7_measures_30 : decode cX7_measures 30 = .ok (.iload_n 1, 1) := by decide +kernel
theorem dX7_measures_31 : decode cX7_measures 31 = .ok (.bipush 12, 2) := by decide +kernel
theorem dX7_measures_33 : decode cX7_measures 33 = .ok (.if_icmp .ge 139, 3) := by decide +kernel
theorem dX7_measures_36 : decode cX7_measures 36 = .ok (.iconst 0, 1) := by decide +kernel
theorem dX7_measures_37 : decode cX7_measures 37 = .ok (.istore_n 2, 1) := by decide +kernel
theorem dX7_measures_38 : decode cX7_measures 38 = .ok (.iload_n 2, 1) := by decide +kernel
theorem dX7_measures_39 : decode cX7_measures 39 = .ok (.bipush 12, 2) := by decide +kernel
theorem dX7_measures_41 : decode cX7_measures 41 = .ok (.if_icmp .ge 125, 3) := by decide +kernel
theorem dX7_measures_44 : decode cX7_measures 44 = .ok (.iconst 0, 1) := by decide +kernel
theorem dX7_measures_45 : decode cX7_measures 45 = .ok (.istore_n 3, 1) := by decide +kernel
theorem dX7_measures_46 : decode cX7_measures 46 = .ok (.aload_n 0, 1) := by decide +kernel
theorem dX7_measures_47 : decode cX7_measures 47 = .ok (.getfield 34, 3) := by decide +kernel
theorem dX7_measures_50 : decode cX7_measures 50 = .ok (.iload_n 2, 1) := by decide +kernel
theorem dX7_measures_51 : decode cX7_measures 51 = .ok (.iaload, 1) := by decide +kernel
theorem dX7_measures_52 : decode cX7_measures 52 = .ok (.istore 4, 2) := by decide +kernel
theorem dX7_measures_54 : decode cX7_measures 54 = .ok (.iconst 0, 1) := by decide +kernel
theorem dX7_measures_55 : decode cX7_measures 55 = .ok (.istore 5, 2) := by decide +kernel
theorem dX7_measures_57 : decode cX7_measures 57 = .ok (.iload 5, 2) := by decide +kernel
theorem dX7_measures_59 : decode cX7_measures 59 = .ok (.bipush 12, 2) := by decide +kernel
theorem dX7_measures_61 : decode cX7_measures 61 = .ok (.if_icmp .ge 70, 3) := by decide +kernel
theorem dX7_measures_64 : decode cX7_measures 64 = .ok (.aload_n 0, 1) := by decide +kernel
theorem dX7_measures_65 : decode cX7_measures 65 = .ok (.getfield 31, 3) := by decide +kernel
theorem dX7_measures_68 : decode cX7_measures 68 = .ok (.bipush 12, 2) := by decide +kernel
theorem dX7_measures_70 : decode cX7_measures 70 = .ok (.iload_n 2, 1) := by decide +kernel
theorem dX7_measures_71 : decode cX7_measures 71 = .ok (.imul, 1) := by decide +kernel
theorem dX7_measures_72 : decode cX7_measures 72 = .ok (.iload 5, 2) := by decide +kernel
theorem dX7_measures_74 : decode cX7_measures 74 = .ok (.iadd, 1) := by decide +kernel
theorem dX7_measures_75 : decode cX7_measures 75 = .ok (.iaload, 1) := by decide +kernel
theorem dX7_measures_76 : decode cX7_measures 76 = .ok (.istore 6, 2) := by decide +kernel
theorem dX7_measures_78 : decode cX7_measures 78 = .ok (.iload 6, 2) := by decide +kernel
theorem dX7_measures_80 : decode cX7_measures 80 = .ok (.ifCond .le 28, 3) := by decide +kernel
theorem dX7_measures_83 : decode cX7_measures 83 = .ok (.aload_n 0, 1) := by decide +kernel
theorem dX7_measures_84 : decode cX7_measures 84 = .ok (.getfield 40, 3) := by decide +kernel
theorem dX7_measures_87 : decode cX7_measures 87 = .ok (.iload 5, 2) := by decide +kernel
theorem dX7_measures_89 : decode cX7_measures 89 = .ok (.iaload, 1) := by decide +kernel
theorem dX7_measures_90 : decode cX7_measures 90 = .ok (.iconst 1, 1) := by decide +kernel
theorem dX7_measures_91 : decode cX7_measures 91 = .ok (.iadd, 1) := by decide +kernel
theorem dX7_measures_92 : decode cX7_measures 92 = .ok (.iload_n 3, 1) := by decide +kernel
theorem dX7_measures_93 : decode cX7_measures 93 = .ok (.if_icmp .le 15, 3) := by decide +kernel
theorem dX7_measures_96 : decode cX7_measures 96 = .ok (.aload_n 0, 1) := by decide +kernel
theorem dX7_measures_97 : decode cX7_measures 97 = .ok (.getfield 40, 3) := by decide +kernel
theorem dX7_measures_100 : decode cX7_measures 100 = .ok (.iload 5, 2) := by decide +kernel
theorem dX7_measures_102 : decode cX7_measures 102 = .ok (.iaload, 1) := by decide +kernel
theorem dX7_measures_103 : decode cX7_measures 103 = .ok (.iconst 1, 1) := by decide +kernel
theorem dX7_measures_104 : decode cX7_measures 104 = .ok (.iadd, 1) := by decide +kernel
theorem dX7_measures_105 : decode cX7_measures 105 = .ok (.goto 4, 3) := by decide +kernel
theorem dX7_measures_108 : decode cX7_measures 108 = .ok (.iload_n 3, 1) := by decide +kernel
theorem dX7_measures_109 : decode cX7_measures 109 = .ok (.istore_n 3, 1) := by decide +kernel
theorem dX7_measures_110 : decode cX7_measures 110 = .ok (.iload 4, 2) := by decide +kernel
theorem dX7_measures_112 : decode cX7_measures 112 = .ok (.iload 6, 2) := by decide +kernel
theorem dX7_measures_114 : decode cX7_measures 114 = .ok (.aload_n 0, 1) := by decide +kernel
theorem dX7_measures_115 : decode cX7_measures 115 = .ok (.getfield 43, 3) := by decide +kernel
theorem dX7_measures_118 : decode cX7_measures 118 = .ok (.iload 5, 2) := by decide +kernel
theorem dX7_measures_120 : decode cX7_measures 120 = .ok (.iaload, 1) := by decide +kernel
theorem dX7_measures_121 : decode cX7_measures 121 = .ok (.imul, 1) := by decide +kernel
theorem dX7_measures_122 : decode cX7_measures 122 = .ok (.iadd, 1) := by decide +kernel
theorem dX7_measures_123 : decode cX7_measures 123 = .ok (.istore 4, 2) := by decide +kernel
theorem dX7_measures_125 : decode cX7_measures 125 = .ok (.iinc 5 1, 3) := by decide +kernel
theorem dX7_measures_128 : decode cX7_measures 128 = .ok (.goto (-71), 3) := by decide +kernel
theorem dX7_measures_131 : decode cX7_measures 131 = .ok (.aload_n 0, 1) := by decide +kernel
theorem dX7_measures_132 : decode cX7_measures 132 = .ok (.getfield 40, 3) := by decide +kernel
theorem dX7_measures_135 : decode cX7_measures 135 = .ok (.iload_n 2, 1) := by decide +kernel
theorem dX7_measures_136 : decode cX7_measures 136 = .ok (.iload_n 3, 1) := by decide +kernel
theorem dX7_measures_137 : decode cX7_measures 137 = .ok (.iastore, 1) := by decide +kernel
theorem dX7_measures_138 : decode cX7_measures 138 = .ok (.aload_n 0, 1) := by decide +kernel
theorem dX7_measures_139 : decode cX7_measures 139 = .ok (.getfield 43, 3) := by decide +kernel
theorem dX7_measures_142 : decode cX7_measures 142 = .ok (.iload_n 2, 1) := by decide +kernel
theorem dX7_measures_143 : decode cX7_measures 143 = .ok (.iload 4, 2) := by decide +kernel
theorem dX7_measures_145 : decode cX7_measures 145 = .ok (.sipush 1000, 3) := by decide +kernel
theorem dX7_measures_148 : decode cX7_measures 148 = .ok (.if_icmp .le 9, 3) := by decide +kernel
theorem dX7_measures_151 : decode cX7_measures 151 = .ok (.sipush 1000, 3) := by decide +kernel
theorem dX7_measures_154 : decode cX7_measures 154 = .ok (.goto 5, 3) := by decide +kernel
theorem dX7_measures_157 : decode cX7_measures 157 = .ok (.iload 4, 2) := by decide +kernel
theorem dX7_measures_159 : decode cX7_measures 159 = .ok (.iastore, 1) := by decide +kernel
theorem dX7_measures_160 : decode cX7_measures 160 = .ok (.iinc 2 1, 3) := by decide +kernel
theorem dX7_measures_163 : decode cX7_measures 163 = .ok (.goto (-125), 3) := by decide +kernel
theorem dX7_measures_166 : decode cX7_measures 166 = .ok (.iinc 1 1, 3) := by decide +kernel
theorem dX7_measures_169 : decode cX7_measures 169 = .ok (.goto (-139), 3) := by decide +kernel
theorem dX7_measures_172 : decode cX7_measures 172 = .ok (.return_, 1) := by decide +kernel
theorem dX7_has_0 : decode cX7_has 0 = .ok (.iload_n 0, 1) := by decide +kernel
theorem dX7_has_1 : decode cX7_has 1 = .ok (.iload_n 1, 1) := by decide +kernel
theorem dX7_has_2 : decode cX7_has 2 = .ok (.ishr, 1) := by decide +kernel
theorem dX7_has_3 : decode cX7_has 3 = .ok (.iconst 1, 1) := by decide +kernel
theorem dX7_has_4 : decode cX7_has 4 = .ok (.iand, 1) := by decide +kernel
theorem dX7_has_5 : decode cX7_has 5 = .ok (.iconst 1, 1) := by decide +kernel
theorem dX7_has_6 : decode cX7_has 6 = .ok (.if_icmp .ne 7, 3) := by decide +kernel
theorem dX7_has_9 : decode cX7_has 9 = .ok (.iconst 1, 1) := by decide +kernel
theorem dX7_has_10 : decode cX7_has 10 = .ok (.goto 4, 3) := by decide +kernel
theorem dX7_has_13 : decode cX7_has 13 = .ok (.iconst 0, 1) := by decide +kernel
theorem dX7_has_14 : decode cX7_has 14 = .ok (.ireturn, 1) := by decide +kernel
theorem dX7_forceOf_0 : decode cX7_forceOf 0 = .ok (.aload_n 0, 1) := by decide +kernel
theorem dX7_forceOf_1 : decode cX7_forceOf 1 = .ok (.getfield 25, 3) := by decide +kernel
theorem dX7_forceOf_4 : decode cX7_forceOf 4 = .ok (.iload_n 1, 1) := by decide +kernel
theorem dX7_forceOf_5 : decode cX7_forceOf 5 = .ok (.iaload, 1) := by decide +kernel
theorem dX7_forceOf_6 : decode cX7_forceOf 6 = .ok (.istore_n 2, 1) := by decide +kernel
theorem dX7_forceOf_7 : decode cX7_forceOf 7 = .ok (.iconst 0, 1) := by decide +kernel
theorem dX7_forceOf_8 : decode cX7_forceOf 8 = .ok (.istore_n 3, 1) := by decide +kernel
theorem dX7_forceOf_9 : decode cX7_forceOf 9 = .ok (.iload_n 3, 1) := by decide +kernel
theorem dX7_forceOf_10 : decode cX7_forceOf 10 = .ok (.bipush 12, 2) := by decide +kernel
theorem dX7_forceOf_12 : decode cX7_forceOf 12 = .ok (.if_icmp .ge 43, 3) := by decide +kernel
theorem dX7_forceOf_15 : decode cX7_forceOf 15 = .ok (.aload_n 0, 1) := by decide +kernel
theorem dX7_forceOf_16 : decode cX7_forceOf 16 = .ok (.getfield 37, 3) := by decide +kernel
theorem dX7_forceOf_19 : decode cX7_forceOf 19 = .ok (.iload_n 3, 1) := by decide +kernel
theorem dX7_forceOf_20 : decode cX7_forceOf 20 = .ok (.iaload, 1) := by decide +kernel
theorem dX7_forceOf_21 : decode cX7_forceOf 21 = .ok (.iload_n 1, 1) := by decide +kernel
theorem dX7_forceOf_22 : decode cX7_forceOf 22 = .ok (.invokestatic 108, 3) := by decide +kernel
theorem dX7_forceOf_25 : decode cX7_forceOf 25 = .ok (.ifCond .eq 22, 3) := by decide +kernel
theorem dX7_forceOf_28 : decode cX7_forceOf 28 = .ok (.aload_n 0, 1) := by decide +kernel
theorem dX7_forceOf_29 : decode cX7_forceOf 29 = .ok (.getfield 25, 3) := by decide +kernel
theorem dX7_forceOf_32 : decode cX7_forceOf 32 = .ok (.iload_n 3, 1) := by decide +kernel
theorem dX7_forceOf_33 : decode cX7_forceOf 33 = .ok (.iaload, 1) := by decide +kernel
theorem dX7_forceOf_34 : decode cX7_forceOf 34 = .ok (.iload_n 2, 1) := by decide +kernel
theorem dX7_forceOf_35 : decode cX7_forceOf 35 = .ok (.if_icmp .le 12, 3) := by decide +kernel
theorem dX7_forceOf_38 : decode cX7_forceOf 38 = .ok (.aload_n 0, 1) := by decide +kernel
theorem dX7_forceOf_39 : decode cX7_forceOf 39 = .ok (.getfield 25, 3) := by decide +kernel
theorem dX7_forceOf_42 : decode cX7_forceOf 42 = .ok (.iload_n 3, 1) := by decide +kernel
theorem dX7_forceOf_43 : decode cX7_forceOf 43 = .ok (.iaload, 1) := by decide +kernel
theorem dX7_forceOf_44 : decode cX7_forceOf 44 = .ok (.goto 4, 3) := by decide +kernel
theorem dX7_forceOf_47 : decode cX7_forceOf 47 = .ok (.iload_n 2, 1) := by decide +kernel
theorem dX7_forceOf_48 : decode cX7_forceOf 48 = .ok (.istore_n 2, 1) := by decide +kernel
theorem dX7_forceOf_49 : decode cX7_forceOf 49 = .ok (.iinc 3 1, 3) := by decide +kernel
theorem dX7_forceOf_52 : decode cX7_forceOf 52 = .ok (.goto (-43), 3) := by decide +kernel
theorem dX7_forceOf_55 : decode cX7_forceOf 55 = .ok (.iload_n 2, 1) := by decide +kernel
theorem dX7_forceOf_56 : decode cX7_forceOf 56 = .ok (.ireturn, 1) := by decide +kernel
theorem dX7_greatest_0 : decode cX7_greatest 0 = .ok (.iconst 0, 1) := by decide +kernel
theorem dX7_greatest_1 : decode cX7_greatest 1 = .ok (.istore_n 2, 1) := by decide +kernel
theorem dX7_greatest_2 : decode cX7_greatest 2 = .ok (.iconst 0, 1) := by decide +kernel
theorem dX7_greatest_3 : decode cX7_greatest 3 = .ok (.istore_n 3, 1) := by decide +kernel
theorem dX7_greatest_4 : decode cX7_greatest 4 = .ok (.iload_n 3, 1) := by decide +kernel
theorem dX7_greatest_5 : decode cX7_greatest 5 = .ok (.bipush 12, 2) := by decide +kernel
theorem dX7_greatest_7 : decode cX7_greatest 7 = .ok (.if_icmp .ge 43, 3) := by decide +kernel
theorem dX7_greatest_10 : decode cX7_greatest 10 = .ok (.iload_n 1, 1) := by decide +kernel
theorem dX7_greatest_11 : decode cX7_greatest 11 = .ok (.ifCond .eq 12, 3) := by decide +kernel
theorem dX7_greatest_14 : decode cX7_greatest 14 = .ok (.aload_n 0, 1) := by decide +kernel
theorem dX7_greatest_15 : decode cX7_greatest 15 = .ok (.getfield 40, 3) := by decide +kernel
theorem dX7_greatest_18 : decode cX7_greatest 18 = .ok (.iload_n 3, 1) := by decide +kernel
theorem dX7_greatest_19 : decode cX7_greatest 19 = .ok (.iaload, 1) := by decide +kernel
theorem dX7_greatest_20 : decode cX7_greatest 20 = .ok (.goto 9, 3) := by decide +kernel
theorem dX7_greatest_23 : decode cX7_greatest 23 = .ok (.aload_n 0, 1) := by decide +kernel
theorem dX7_greatest_24 : decode cX7_greatest 24 = .ok (.getfield 43, 3) := by decide +kernel
theorem dX7_greatest_27 : decode cX7_greatest 27 = .ok (.iload_n 3, 1) := by decide +kernel
theorem dX7_greatest_28 : decode cX7_greatest 28 = .ok (.iaload, 1) := by decide +kernel
theorem dX7_greatest_29 : decode cX7_greatest 29 = .ok (.istore 4, 2) := by decide +kernel
theorem dX7_greatest_31 : decode cX7_greatest 31 = .ok (.iload 4, 2) := by decide +kernel
theorem dX7_greatest_33 : decode cX7_greatest 33 = .ok (.iload_n 2, 1) := by decide +kernel
theorem dX7_greatest_34 : decode cX7_greatest 34 = .ok (.if_icmp .le 8, 3) := by decide +kernel
theorem dX7_greatest_37 : decode cX7_greatest 37 = .ok (.iload 4, 2) := by decide +kernel
theorem dX7_greatest_39 : decode cX7_greatest 39 = .ok (.goto 4, 3) := by decide +kernel
theorem dX7_greatest_42 : decode cX7_greatest 42 = .ok (.iload_n 2, 1) := by decide +kernel
theorem dX7_greatest_43 : decode cX7_greatest 43 = .ok (.istore_n 2, 1) := by decide +kernel
theorem dX7_greatest_44 : decode cX7_greatest 44 = .ok (.iinc 3 1, 3) := by decide +kernel
theorem dX7_greatest_47 : decode cX7_greatest 47 = .ok (.goto (-43), 3) := by decide +kernel
theorem dX7_greatest_50 : decode cX7_greatest 50 = .ok (.iload_n 2, 1) := by decide +kernel
theorem dX7_greatest_51 : decode cX7_greatest 51 = .ok (.ireturn, 1) := by decide +kernel
theorem dX7_refusal_0 : decode cX7_refusal 0 = .ok (.aload_n 0, 1) := by decide +kernel
theorem dX7_refusal_1 : decode cX7_refusal 1 = .ok (.invokevirtual 112, 3) := by decide +kernel
theorem dX7_refusal_4 : decode cX7_refusal 4 = .ok (.aload_n 0, 1) := by decide +kernel
theorem dX7_refusal_5 : decode cX7_refusal 5 = .ok (.iload_n 2, 1) := by decide +kernel
theorem dX7_refusal_6 : decode cX7_refusal 6 = .ok (.invokevirtual 115, 3) := by decide +kernel
theorem dX7_refusal_9 : decode cX7_refusal 9 = .ok (.istore 4, 2) := by decide +kernel
theorem dX7_refusal_11 : decode cX7_refusal 11 = .ok (.aload_n 0, 1) := by decide +kernel
theorem dX7_refusal_12 : decode cX7_refusal 12 = .ok (.getfield 37, 3) := by decide +kernel
theorem dX7_refusal_15 : decode cX7_refusal 15 = .ok (.iload_n 2, 1) := by decide +kernel
theorem dX7_refusal_16 : decode cX7_refusal 16 = .ok (.iaload, 1) := by decide +kernel
theorem dX7_refusal_17 : decode cX7_refusal 17 = .ok (.istore 5, 2) := by decide +kernel
theorem dX7_refusal_19 : decode cX7_refusal 19 = .ok (.aload_n 0, 1) := by decide +kernel
theorem dX7_refusal_20 : decode cX7_refusal 20 = .ok (.getfield 28, 3) := by decide +kernel
theorem dX7_refusal_23 : decode cX7_refusal 23 = .ok (.iload_n 1, 1) := by decide +kernel
theorem dX7_refusal_24 : decode cX7_refusal 24 = .ok (.iaload, 1) := by decide +kernel
theorem dX7_refusal_25 : decode cX7_refusal 25 = .ok (.iload 4, 2) := by decide +kernel
theorem dX7_refusal_27 : decode cX7_refusal 27 = .ok (.if_icmp .lt 19, 3) := by decide +kernel
theorem dX7_refusal_30 : decode cX7_refusal 30 = .ok (.iload_n 3, 1) := by decide +kernel
theorem dX7_refusal_31 : decode cX7_refusal 31 = .ok (.iconst (-1), 1) := by decide +kernel
theorem dX7_refusal_32 : decode cX7_refusal 32 = .ok (.if_icmp .eq 17, 3) := by decide +kernel
theorem dX7_refusal_35 : decode cX7_refusal 35 = .ok (.aload_n 0, 1) := by decide +kernel
theorem dX7_refusal_36 : decode cX7_refusal 36 = .ok (.getfield 19, 3) := by decide +kernel
theorem dX7_refusal_39 : decode cX7_refusal 39 = .ok (.iload_n 3, 1) := by decide +kernel
theorem dX7_refusal_40 : decode cX7_refusal 40 = .ok (.iaload, 1) := by decide +kernel
theorem dX7_refusal_41 : decode cX7_refusal 41 = .ok (.iload 4, 2) := by decide +kernel
theorem dX7_refusal_43 : decode cX7_refusal 43 = .ok (.if_icmp .ge 6, 3) := by decide +kernel
theorem dX7_refusal_46 : decode cX7_refusal 46 = .ok (.bipush (-2), 2) := by decide +kernel
theorem dX7_refusal_48 : decode cX7_refusal 48 = .ok (.ireturn, 1) := by decide +kernel
theorem dX7_refusal_49 : decode cX7_refusal 49 = .ok (.aload_n 0, 1) := by decide +kernel
theorem dX7_refusal_50 : decode cX7_refusal 50 = .ok (.iload_n 2, 1) := by decide +kernel
theorem dX7_refusal_51 : decode cX7_refusal 51 = .ok (.iload_n 3, 1) := by decide +kernel
theorem dX7_refusal_52 : decode cX7_refusal 52 = .ok (.invokevirtual 101, 3) := by decide +kernel
theorem dX7_refusal_55 : decode cX7_refusal 55 = .ok (.aload_n 0, 1) := by decide +kernel
theorem dX7_refusal_56 : decode cX7_refusal 56 = .ok (.invokevirtual 105, 3) := by decide +kernel
theorem dX7_refusal_59 : decode cX7_refusal 59 = .ok (.aload_n 0, 1) := by decide +kernel
theorem dX7_refusal_60 : decode cX7_refusal 60 = .ok (.getfield 37, 3) := by decide +kernel
theorem dX7_refusal_63 : decode cX7_refusal 63 = .ok (.iload_n 2, 1) := by decide +kernel
theorem dX7_refusal_64 : decode cX7_refusal 64 = .ok (.iaload, 1) := by decide +kernel
theorem dX7_refusal_65 : decode cX7_refusal 65 = .ok (.iload_n 2, 1) := by decide +kernel
theorem dX7_refusal_66 : decode cX7_refusal 66 = .ok (.invokestatic 108, 3) := by decide +kernel
theorem dX7_refusal_69 : decode cX7_refusal 69 = .ok (.ifCond .eq 6, 3) := by decide +kernel
theorem dX7_refusal_72 : decode cX7_refusal 72 = .ok (.bipush (-3), 2) := by decide +kernel
theorem dX7_refusal_74 : decode cX7_refusal 74 = .ok (.ireturn, 1) := by decide +kernel
theorem dX7_refusal_75 : decode cX7_refusal 75 = .ok (.aload_n 0, 1) := by decide +kernel
theorem dX7_refusal_76 : decode cX7_refusal 76 = .ok (.invokevirtual 118, 3) := by decide +kernel
theorem dX7_refusal_79 : decode cX7_refusal 79 = .ok (.aload_n 0, 1) := by decide +kernel
theorem dX7_refusal_80 : decode cX7_refusal 80 = .ok (.iconst 1, 1) := by decide +kernel
theorem dX7_refusal_81 : decode cX7_refusal 81 = .ok (.invokevirtual 121, 3) := by decide +kernel
theorem dX7_refusal_84 : decode cX7_refusal 84 = .ok (.iconst 5, 1) := by decide +kernel
theorem dX7_refusal_85 : decode cX7_refusal 85 = .ok (.if_icmp .le 6, 3) := by decide +kernel
theorem dX7_refusal_88 : decode cX7_refusal 88 = .ok (.bipush (-4), 2) := by decide +kernel
theorem dX7_refusal_90 : decode cX7_refusal 90 = .ok (.ireturn, 1) := by decide +kernel
theorem dX7_refusal_91 : decode cX7_refusal 91 = .ok (.aload_n 0, 1) := by decide +kernel
theorem dX7_refusal_92 : decode cX7_refusal 92 = .ok (.iconst 0, 1) := by decide +kernel
theorem dX7_refusal_93 : decode cX7_refusal 93 = .ok (.invokevirtual 121, 3) := by decide +kernel
theorem dX7_refusal_96 : decode cX7_refusal 96 = .ok (.bipush 100, 2) := by decide +kernel
theorem dX7_refusal_98 : decode cX7_refusal 98 = .ok (.if_icmp .le 6, 3) := by decide +kernel
theorem dX7_refusal_101 : decode cX7_refusal 101 = .ok (.bipush (-5), 2) := by decide +kernel
theorem dX7_refusal_103 : decode cX7_refusal 103 = .ok (.ireturn, 1) := by decide +kernel
theorem dX7_refusal_104 : decode cX7_refusal 104 = .ok (.iconst 0, 1) := by decide +kernel
theorem dX7_refusal_105 : decode cX7_refusal 105 = .ok (.istore 6, 2) := by decide +kernel
theorem dX7_refusal_107 : decode cX7_refusal 107 = .ok (.iload 6, 2) := by decide +kernel
theorem dX7_refusal_109 : decode cX7_refusal 109 = .ok (.bipush 12, 2) := by decide +kernel
theorem dX7_refusal_111 : decode cX7_refusal 111 = .ok (.if_icmp .ge 47, 3) := by decide +kernel
theorem dX7_refusal_114 : decode cX7_refusal 114 = .ok (.aload_n 0, 1) := by decide +kernel
theorem dX7_refusal_115 : decode cX7_refusal 115 = .ok (.getfield 37, 3) := by decide +kernel
theorem dX7_refusal_118 : decode cX7_refusal 118 = .ok (.iload_n 2, 1) := by decide +kernel
theorem dX7_refusal_119 : decode cX7_refusal 119 = .ok (.iaload, 1) := by decide +kernel
theorem dX7_refusal_120 : decode cX7_refusal 120 = .ok (.iload 5, 2) := by decide +kernel
theorem dX7_refusal_122 : decode cX7_refusal 122 = .ok (.iconst (-1), 1) := by decide +kernel
theorem dX7_refusal_123 : decode cX7_refusal 123 = .ok (.ixor, 1) := by decide +kernel
theorem dX7_refusal_124 : decode cX7_refusal 124 = .ok (.iand, 1) := by decide +kernel
theorem dX7_refusal_125 : decode cX7_refusal 125 = .ok (.iload 6, 2) := by decide +kernel
theorem dX7_refusal_127 : decode cX7_refusal 127 = .ok (.invokestatic 108, 3) := by decide +kernel
theorem dX7_refusal_130 : decode cX7_refusal 130 = .ok (.ifCond .eq 22, 3) := by decide +kernel
theorem dX7_refusal_133 : decode cX7_refusal 133 = .ok (.aload_n 0, 1) := by decide +kernel
theorem dX7_refusal_134 : decode cX7_refusal 134 = .ok (.getfield 19, 3) := by decide +kernel
theorem dX7_refusal_137 : decode cX7_refusal 137 = .ok (.aload_n 0, 1) := by decide +kernel
theorem dX7_refusal_138 : decode cX7_refusal 138 = .ok (.iload 6, 2) := by decide +kernel
theorem dX7_refusal_140 : decode cX7_refusal 140 = .ok (.invokevirtual 97, 3) := by decide +kernel
theorem dX7_refusal_143 : decode cX7_refusal 143 = .ok (.iaload, 1) := by decide +kernel
theorem dX7_refusal_144 : decode cX7_refusal 144 = .ok (.iload 4, 2) := by decide +kernel
theorem dX7_refusal_146 : decode cX7_refusal 146 = .ok (.if_icmp .ge 6, 3) := by decide +kernel
theorem dX7_refusal_149 : decode cX7_refusal 149 = .ok (.bipush (-6), 2) := by decide +kernel
theorem dX7_refusal_151 : decode cX7_refusal 151 = .ok (.ireturn, 1) := by decide +kernel
theorem dX7_refusal_152 : decode cX7_refusal 152 = .ok (.iinc 6 1, 3) := by decide +kernel
theorem dX7_refusal_155 : decode cX7_refusal 155 = .ok (.goto (-48), 3) := by decide +kernel
theorem dX7_refusal_158 : decode cX7_refusal 158 = .ok (.iconst 0, 1) := by decide +kernel
theorem dX7_refusal_159 : decode cX7_refusal 159 = .ok (.ireturn, 1) := by decide +kernel
theorem dX7_edit_0 : decode cX7_edit 0 = .ok (.iload_n 1, 1) := by decide +kernel
theorem dX7_edit_1 : decode cX7_edit 1 = .ok (.invokestatic 125, 3) := by decide +kernel
theorem dX7_edit_4 : decode cX7_edit 4 = .ok (.ifCond .eq 14, 3) := by decide +kernel
theorem dX7_edit_7 : decode cX7_edit 7 = .ok (.iload_n 2, 1) := by decide +kernel
theorem dX7_edit_8 : decode cX7_edit 8 = .ok (.invokestatic 91, 3) := by decide +kernel
theorem dX7_edit_11 : decode cX7_edit 11 = .ok (.ifCond .eq 7, 3) := by decide +kernel
theorem dX7_edit_14 : decode cX7_edit 14 = .ok (.iconst 1, 1) := by decide +kernel
theorem dX7_edit_15 : decode cX7_edit 15 = .ok (.goto 4, 3) := by decide +kernel
theorem dX7_edit_18 : decode cX7_edit 18 = .ok (.iconst 0, 1) := by decide +kernel
theorem dX7_edit_19 : decode cX7_edit 19 = .ok (.istore_n 3, 1) := by decide +kernel
theorem dX7_edit_20 : decode cX7_edit 20 = .ok (.aload_n 0, 1) := by decide +kernel
theorem dX7_edit_21 : decode cX7_edit 21 = .ok (.iload_n 3, 1) := by decide +kernel
theorem dX7_edit_22 : decode cX7_edit 22 = .ok (.iload_n 3, 1) := by decide +kernel
theorem dX7_edit_23 : decode cX7_edit 23 = .ok (.ifCond .eq 25, 3) := by decide +kernel
theorem dX7_edit_26 : decode cX7_edit 26 = .ok (.aload_n 0, 1) := by decide +kernel
theorem dX7_edit_27 : decode cX7_edit 27 = .ok (.getfield 94, 3) := by decide +kernel
theorem dX7_edit_30 : decode cX7_edit 30 = .ok (.ifCond .ne 18, 3) := by decide +kernel
theorem dX7_edit_33 : decode cX7_edit 33 = .ok (.aload_n 0, 1) := by decide +kernel
theorem dX7_edit_34 : decode cX7_edit 34 = .ok (.getfield 22, 3) := by decide +kernel
theorem dX7_edit_37 : decode cX7_edit 37 = .ok (.iload_n 2, 1) := by decide +kernel
theorem dX7_edit_38 : decode cX7_edit 38 = .ok (.iaload, 1) := by decide +kernel
theorem dX7_edit_39 : decode cX7_edit 39 = .ok (.bipush 20, 2) := by decide +kernel
theorem dX7_edit_41 : decode cX7_edit 41 = .ok (.if_icmp .ge 7, 3) := by decide +kernel
theorem dX7_edit_44 : decode cX7_edit 44 = .ok (.iconst 1, 1) := by decide +kernel
theorem dX7_edit_45 : decode cX7_edit 45 = .ok (.goto 4, 3) := by decide +kernel
theorem dX7_edit_48 : decode cX7_edit 48 = .ok (.iconst 0, 1) := by decide +kernel
theorem dX7_edit_49 : decode cX7_edit 49 = .ok (.iconst 1, 1) := by decide +kernel
theorem dX7_edit_50 : decode cX7_edit 50 = .ok (.invokevirtual 83, 3) := by decide +kernel
theorem dX7_edit_53 : decode cX7_edit 53 = .ok (.ifCond .ne 5, 3) := by decide +kernel
theorem dX7_edit_56 : decode cX7_edit 56 = .ok (.iconst 0, 1) := by decide +kernel
theorem dX7_edit_57 : decode cX7_edit 57 = .ok (.ireturn, 1) := by decide +kernel
theorem dX7_edit_58 : decode cX7_edit 58 = .ok (.aload_n 0, 1) := by decide +kernel
theorem dX7_edit_59 : decode cX7_edit 59 = .ok (.iload_n 1, 1) := by decide +kernel
theorem dX7_edit_60 : decode cX7_edit 60 = .ok (.iload_n 2, 1) := by decide +kernel
theorem dX7_edit_61 : decode cX7_edit 61 = .ok (.iconst (-1), 1) := by decide +kernel
theorem dX7_edit_62 : decode cX7_edit 62 = .ok (.invokevirtual 128, 3) := by decide +kernel
theorem dX7_edit_65 : decode cX7_edit 65 = .ok (.istore 4, 2) := by decide +kernel
theorem dX7_edit_67 : decode cX7_edit 67 = .ok (.iload 4, 2) := by decide +kernel
theorem dX7_edit_69 : decode cX7_edit 69 = .ok (.ifCond .ne 84, 3) := by decide +kernel
theorem dX7_edit_72 : decode cX7_edit 72 = .ok (.aload_n 0, 1) := by decide +kernel
theorem dX7_edit_73 : decode cX7_edit 73 = .ok (.getfield 22, 3) := by decide +kernel
theorem dX7_edit_76 : decode cX7_edit 76 = .ok (.iload_n 2, 1) := by decide +kernel
theorem dX7_edit_77 : decode cX7_edit 77 = .ok (.dup2, 1) := by decide +kernel
theorem dX7_edit_78 : decode cX7_edit 78 = .ok (.iaload, 1) := by decide +kernel
theorem dX7_edit_79 : decode cX7_edit 79 = .ok (.iconst 1, 1) := by decide +kernel
theorem dX7_edit_80 : decode cX7_edit 80 = .ok (.iadd, 1) := by decide +kernel
theorem dX7_edit_81 : decode cX7_edit 81 = .ok (.iastore, 1) := by decide +kernel
theorem dX7_edit_82 : decode cX7_edit 82 = .ok (.iconst 0, 1) := by decide +kernel
theorem dX7_edit_83 : decode cX7_edit 83 = .ok (.istore 5, 2) := by decide +kernel
theorem dX7_edit_85 : decode cX7_edit 85 = .ok (.iload 5, 2) := by decide +kernel
theorem dX7_edit_87 : decode cX7_edit 87 = .ok (.aload_n 0, 1) := by decide +kernel
theorem dX7_edit_88 : decode cX7_edit 88 = .ok (.getfield 72, 3) := by decide +kernel
theorem dX7_edit_91 : decode cX7_edit 91 = .ok (.if_icmp .ge 32, 3) := by decide +kernel
theorem dX7_edit_94 : decode cX7_edit 94 = .ok (.aload_n 0, 1) := by decide +kernel
theorem dX7_edit_95 : decode cX7_edit 95 = .ok (.getfield 13, 3) := by decide +kernel
theorem dX7_edit_98 : decode cX7_edit 98 = .ok (.bipush 30, 2) := by decide +kernel
theorem dX7_edit_100 : decode cX7_edit 100 = .ok (.aload_n 0, 1) := by decide +kernel
theorem dX7_edit_101 : decode cX7_edit 101 = .ok (.iload_n 2, 1) := by decide +kernel
theorem dX7_edit_102 : decode cX7_edit 102 = .ok (.invokevirtual 97, 3) := by decide +kernel
theorem dX7_edit_105 : decode cX7_edit 105 = .ok (.imul, 1) := by decide +kernel
theorem dX7_edit_106 : decode cX7_edit 106 = .ok (.iload 5, 2) := by decide +kernel
theorem dX7_edit_108 : decode cX7_edit 108 = .ok (.iadd, 1) := by decide +kernel
theorem dX7_edit_109 : decode cX7_edit 109 = .ok (.aload_n 0, 1) := by decide +kernel
theorem dX7_edit_110 : decode cX7_edit 110 = .ok (.getfield 7, 3) := by decide +kernel
theorem dX7_edit_113 : decode cX7_edit 113 = .ok (.iload 5, 2) := by decide +kernel
theorem dX7_edit_115 : decode cX7_edit 115 = .ok (.iaload, 1) := by decide +kernel
theorem dX7_edit_116 : decode cX7_edit 116 = .ok (.iastore, 1) := by decide +kernel
theorem dX7_edit_117 : decode cX7_edit 117 = .ok (.iinc 5 1, 3) := by decide +kernel
theorem dX7_edit_120 : decode cX7_edit 120 = .ok (.goto (-35), 3) := by decide +kernel
theorem dX7_edit_123 : decode cX7_edit 123 = .ok (.aload_n 0, 1) := by decide +kernel
theorem dX7_edit_124 : decode cX7_edit 124 = .ok (.getfield 16, 3) := by decide +kernel
theorem dX7_edit_127 : decode cX7_edit 127 = .ok (.aload_n 0, 1) := by decide +kernel
theorem dX7_edit_128 : decode cX7_edit 128 = .ok (.iload_n 2, 1) := by decide +kernel
theorem dX7_edit_129 : decode cX7_edit 129 = .ok (.invokevirtual 97, 3) := by decide +kernel
theorem dX7_edit_132 : decode cX7_edit 132 = .ok (.aload_n 0, 1) := by decide +kernel
theorem dX7_edit_133 : decode cX7_edit 133 = .ok (.getfield 72, 3) := by decide +kernel
theorem dX7_edit_136 : decode cX7_edit 136 = .ok (.iastore, 1) := by decide +kernel
theorem dX7_edit_137 : decode cX7_edit 137 = .ok (.aload_n 0, 1) := by decide +kernel
theorem dX7_edit_138 : decode cX7_edit 138 = .ok (.getfield 19, 3) := by decide +kernel
theorem dX7_edit_141 : decode cX7_edit 141 = .ok (.aload_n 0, 1) := by decide +kernel
theorem dX7_edit_142 : decode cX7_edit 142 = .ok (.iload_n 2, 1) := by decide +kernel
theorem dX7_edit_143 : decode cX7_edit 143 = .ok (.invokevirtual 97, 3) := by decide +kernel
theorem dX7_edit_146 : decode cX7_edit 146 = .ok (.aload_n 0, 1) := by decide +kernel
theorem dX7_edit_147 : decode cX7_edit 147 = .ok (.getfield 28, 3) := by decide +kernel
theorem dX7_edit_150 : decode cX7_edit 150 = .ok (.iload_n 1, 1) := by decide +kernel
theorem dX7_edit_151 : decode cX7_edit 151 = .ok (.iaload, 1) := by decide +kernel
theorem dX7_edit_152 : decode cX7_edit 152 = .ok (.iastore, 1) := by decide +kernel
theorem dX7_edit_153 : decode cX7_edit 153 = .ok (.aload_n 0, 1) := by decide +kernel
theorem dX7_edit_154 : decode cX7_edit 154 = .ok (.iconst 0, 1) := by decide +kernel
theorem dX7_edit_155 : decode cX7_edit 155 = .ok (.putfield 72, 3) := by decide +kernel
theorem dX7_edit_158 : decode cX7_edit 158 = .ok (.iload 4, 2) := by decide +kernel
theorem dX7_edit_160 : decode cX7_edit 160 = .ok (.ifCond .ne 12, 3) := by decide +kernel
theorem dX7_edit_163 : decode cX7_edit 163 = .ok (.aload_n 0, 1) := by decide +kernel
theorem dX7_edit_164 : decode cX7_edit 164 = .ok (.getfield 22, 3) := by decide +kernel
theorem dX7_edit_167 : decode cX7_edit 167 = .ok (.iload_n 2, 1) := by decide +kernel
theorem dX7_edit_168 : decode cX7_edit 168 = .ok (.iaload, 1) := by decide +kernel
theorem dX7_edit_169 : decode cX7_edit 169 = .ok (.goto 5, 3) := by decide +kernel
theorem dX7_edit_172 : decode cX7_edit 172 = .ok (.iload 4, 2) := by decide +kernel
theorem dX7_edit_174 : decode cX7_edit 174 = .ok (.ireturn, 1) := by decide +kernel
theorem dX7_undo_0 : decode cX7_undo 0 = .ok (.iload_n 1, 1) := by decide +kernel
theorem dX7_undo_1 : decode cX7_undo 1 = .ok (.invokestatic 125, 3) := by decide +kernel
theorem dX7_undo_4 : decode cX7_undo 4 = .ok (.ifCond .eq 14, 3) := by decide +kernel
theorem dX7_undo_7 : decode cX7_undo 7 = .ok (.iload_n 2, 1) := by decide +kernel
theorem dX7_undo_8 : decode cX7_undo 8 = .ok (.invokestatic 91, 3) := by decide +kernel
theorem dX7_undo_11 : decode cX7_undo 11 = .ok (.ifCond .eq 7, 3) := by decide +kernel
theorem dX7_undo_14 : decode cX7_undo 14 = .ok (.iconst 1, 1) := by decide +kernel
theorem dX7_undo_15 : decode cX7_undo 15 = .ok (.goto 4, 3) := by decide +kernel
theorem dX7_undo_18 : decode cX7_undo 18 = .ok (.iconst 0, 1) := by decide +kernel
theorem dX7_undo_19 : decode cX7_undo 19 = .ok (.istore_n 3, 1) := by decide +kernel
theorem dX7_undo_20 : decode cX7_undo 20 = .ok (.aload_n 0, 1) := by decide +kernel
theorem dX7_undo_21 : decode cX7_undo 21 = .ok (.iload_n 3, 1) := by decide +kernel
theorem dX7_undo_22 : decode cX7_undo 22 = .ok (.iload_n 3, 1) := by decide +kernel
theorem dX7_undo_23 : decode cX7_undo 23 = .ok (.ifCond .eq 16, 3) := by decide +kernel
theorem dX7_undo_26 : decode cX7_undo 26 = .ok (.aload_n 0, 1) := by decide +kernel
theorem dX7_undo_27 : decode cX7_undo 27 = .ok (.getfield 22, 3) := by decide +kernel
theorem dX7_undo_30 : decode cX7_undo 30 = .ok (.iload_n 2, 1) := by decide +kernel
theorem dX7_undo_31 : decode cX7_undo 31 = .ok (.iaload, 1) := by decide +kernel
theorem dX7_undo_32 : decode cX7_undo 32 = .ok (.ifCond .le 7, 3) := by decide +kernel
theorem dX7_undo_35 : decode cX7_undo 35 = .ok (.iconst 1, 1) := by decide +kernel
theorem dX7_undo_36 : decode cX7_undo 36 = .ok (.goto 4, 3) := by decide +kernel
theorem dX7_undo_39 : decode cX7_undo 39 = .ok (.iconst 0, 1) := by decide +kernel
theorem dX7_undo_40 : decode cX7_undo 40 = .ok (.iconst 1, 1) := by decide +kernel
theorem dX7_undo_41 : decode cX7_undo 41 = .ok (.invokevirtual 83, 3) := by decide +kernel
theorem dX7_undo_44 : decode cX7_undo 44 = .ok (.ifCond .ne 5, 3) := by decide +kernel
theorem dX7_undo_47 : decode cX7_undo 47 = .ok (.iconst 0, 1) := by decide +kernel
theorem dX7_undo_48 : decode cX7_undo 48 = .ok (.ireturn, 1) := by decide +kernel
theorem dX7_undo_49 : decode cX7_undo 49 = .ok (.aload_n 0, 1) := by decide +kernel
theorem dX7_undo_50 : decode cX7_undo 50 = .ok (.iload_n 1, 1) := by decide +kernel
theorem dX7_undo_51 : decode cX7_undo 51 = .ok (.iload_n 2, 1) := by decide +kernel
theorem dX7_undo_52 : decode cX7_undo 52 = .ok (.aload_n 0, 1) := by decide +kernel
theorem dX7_undo_53 : decode cX7_undo 53 = .ok (.iload_n 2, 1) := by decide +kernel
theorem dX7_undo_54 : decode cX7_undo 54 = .ok (.invokevirtual 97, 3) := by decide +kernel
theorem dX7_undo_57 : decode cX7_undo 57 = .ok (.iconst 1, 1) := by decide +kernel
theorem dX7_undo_58 : decode cX7_undo 58 = .ok (.isub, 1) := by decide +kernel
theorem dX7_undo_59 : decode cX7_undo 59 = .ok (.invokevirtual 128, 3) := by decide +kernel
theorem dX7_undo_62 : decode cX7_undo 62 = .ok (.istore 4, 2) := by decide +kernel
theorem dX7_undo_64 : decode cX7_undo 64 = .ok (.aload_n 0, 1) := by decide +kernel
theorem dX7_undo_65 : decode cX7_undo 65 = .ok (.getfield 22, 3) := by decide +kernel
theorem dX7_undo_68 : decode cX7_undo 68 = .ok (.iload_n 2, 1) := by decide +kernel
theorem dX7_undo_69 : decode cX7_undo 69 = .ok (.dup2, 1) := by decide +kernel
theorem dX7_undo_70 : decode cX7_undo 70 = .ok (.iaload, 1) := by decide +kernel
theorem dX7_undo_71 : decode cX7_undo 71 = .ok (.iload 4, 2) := by decide +kernel
theorem dX7_undo_73 : decode cX7_undo 73 = .ok (.ifCond .ne 7, 3) := by decide +kernel
theorem dX7_undo_76 : decode cX7_undo 76 = .ok (.iconst 1, 1) := by decide +kernel
theorem dX7_undo_77 : decode cX7_undo 77 = .ok (.goto 4, 3) := by decide +kernel
theorem dX7_undo_80 : decode cX7_undo 80 = .ok (.iconst 0, 1) := by decide +kernel
theorem dX7_undo_81 : decode cX7_undo 81 = .ok (.isub, 1) := by decide +kernel
theorem dX7_undo_82 : decode cX7_undo 82 = .ok (.iastore, 1) := by decide +kernel
theorem dX7_undo_83 : decode cX7_undo 83 = .ok (.iload 4, 2) := by decide +kernel
theorem dX7_undo_85 : decode cX7_undo 85 = .ok (.ifCond .ne 12, 3) := by decide +kernel
theorem dX7_undo_88 : decode cX7_undo 88 = .ok (.aload_n 0, 1) := by decide +kernel
theorem dX7_undo_89 : decode cX7_undo 89 = .ok (.getfield 22, 3) := by decide +kernel
theorem dX7_undo_92 : decode cX7_undo 92 = .ok (.iload_n 2, 1) := by decide +kernel
theorem dX7_undo_93 : decode cX7_undo 93 = .ok (.iaload, 1) := by decide +kernel
theorem dX7_undo_94 : decode cX7_undo 94 = .ok (.goto 5, 3) := by decide +kernel
theorem dX7_undo_97 : decode cX7_undo 97 = .ok (.iload 4, 2) := by decide +kernel
theorem dX7_undo_99 : decode cX7_undo 99 = .ok (.ireturn, 1) := by decide +kernel
theorem dX7_approve_0 : decode cX7_approve 0 = .ok (.aload_n 0, 1) := by decide +kernel
theorem dX7_approve_1 : decode cX7_approve 1 = .ok (.iload_n 1, 1) := by decide +kernel
theorem dX7_approve_2 : decode cX7_approve 2 = .ok (.invokestatic 125, 3) := by decide +kernel
theorem dX7_approve_5 : decode cX7_approve 5 = .ok (.ifCond .eq 14, 3) := by decide +kernel
theorem dX7_approve_8 : decode cX7_approve 8 = .ok (.iload_n 2, 1) := by decide +kernel
theorem dX7_approve_9 : decode cX7_approve 9 = .ok (.invokestatic 91, 3) := by decide +kernel
theorem dX7_approve_12 : decode cX7_approve 12 = .ok (.ifCond .eq 7, 3) := by decide +kernel
theorem dX7_approve_15 : decode cX7_approve 15 = .ok (.iconst 1, 1) := by decide +kernel
theorem dX7_approve_16 : decode cX7_approve 16 = .ok (.goto 4, 3) := by decide +kernel
theorem dX7_approve_19 : decode cX7_approve 19 = .ok (.iconst 0, 1) := by decide +kernel
theorem dX7_approve_20 : decode cX7_approve 20 = .ok (.iconst 1, 1) := by decide +kernel
theorem dX7_approve_21 : decode cX7_approve 21 = .ok (.iconst 1, 1) := by decide +kernel
theorem dX7_approve_22 : decode cX7_approve 22 = .ok (.invokevirtual 83, 3) := by decide +kernel
theorem dX7_approve_25 : decode cX7_approve 25 = .ok (.ifCond .ne 5, 3) := by decide +kernel
theorem dX7_approve_28 : decode cX7_approve 28 = .ok (.iconst 0, 1) := by decide +kernel
theorem dX7_approve_29 : decode cX7_approve 29 = .ok (.ireturn, 1) := by decide +kernel
theorem dX7_approve_30 : decode cX7_approve 30 = .ok (.aload_n 0, 1) := by decide +kernel
theorem dX7_approve_31 : decode cX7_approve 31 = .ok (.invokevirtual 112, 3) := by decide +kernel
theorem dX7_approve_34 : decode cX7_approve 34 = .ok (.aload_n 0, 1) := by decide +kernel
theorem dX7_approve_35 : decode cX7_approve 35 = .ok (.getfield 28, 3) := by decide +kernel
theorem dX7_approve_38 : decode cX7_approve 38 = .ok (.iload_n 1, 1) := by decide +kernel
theorem dX7_approve_39 : decode cX7_approve 39 = .ok (.iaload, 1) := by decide +kernel
theorem dX7_approve_40 : decode cX7_approve 40 = .ok (.aload_n 0, 1) := by decide +kernel
theorem dX7_approve_41 : decode cX7_approve 41 = .ok (.iload_n 2, 1) := by decide +kernel
theorem dX7_approve_42 : decode cX7_approve 42 = .ok (.invokevirtual 115, 3) := by decide +kernel
theorem dX7_approve_45 : decode cX7_approve 45 = .ok (.if_icmp .lt 26, 3) := by decide +kernel
theorem dX7_approve_48 : decode cX7_approve 48 = .ok (.aload_n 0, 1) := by decide +kernel
theorem dX7_approve_49 : decode cX7_approve 49 = .ok (.getfield 28, 3) := by decide +kernel
theorem dX7_approve_52 : decode cX7_approve 52 = .ok (.iload_n 1, 1) := by decide +kernel
theorem dX7_approve_53 : decode cX7_approve 53 = .ok (.iaload, 1) := by decide +kernel
theorem dX7_approve_54 : decode cX7_approve 54 = .ok (.aload_n 0, 1) := by decide +kernel
theorem dX7_approve_55 : decode cX7_approve 55 = .ok (.getfield 19, 3) := by decide +kernel
theorem dX7_approve_58 : decode cX7_approve 58 = .ok (.aload_n 0, 1) := by decide +kernel
theorem dX7_approve_59 : decode cX7_approve 59 = .ok (.iload_n 2, 1) := by decide +kernel
theorem dX7_approve_60 : decode cX7_approve 60 = .ok (.invokevirtual 97, 3) := by decide +kernel
theorem dX7_approve_63 : decode cX7_approve 63 = .ok (.iaload, 1) := by decide +kernel
theorem dX7_approve_64 : decode cX7_approve 64 = .ok (.if_icmp .le 7, 3) := by decide +kernel
theorem dX7_approve_67 : decode cX7_approve 67 = .ok (.iconst 1, 1) := by decide +kernel
theorem dX7_approve_68 : decode cX7_approve 68 = .ok (.goto 4, 3) := by decide +kernel
theorem dX7_approve_71 : decode cX7_approve 71 = .ok (.iconst 0, 1) := by decide +kernel
theorem dX7_approve_72 : decode cX7_approve 72 = .ok (.istore_n 3, 1) := by decide +kernel
theorem dX7_approve_73 : decode cX7_approve 73 = .ok (.aload_n 0, 1) := by decide +kernel
theorem dX7_approve_74 : decode cX7_approve 74 = .ok (.getfield 19, 3) := by decide +kernel
theorem dX7_approve_77 : decode cX7_approve 77 = .ok (.aload_n 0, 1) := by decide +kernel
theorem dX7_approve_78 : decode cX7_approve 78 = .ok (.iload_n 2, 1) := by decide +kernel
theorem dX7_approve_79 : decode cX7_approve 79 = .ok (.invokevirtual 97, 3) := by decide +kernel
theorem dX7_approve_82 : decode cX7_approve 82 = .ok (.iload_n 3, 1) := by decide +kernel
theorem dX7_approve_83 : decode cX7_approve 83 = .ok (.ifCond .eq 12, 3) := by decide +kernel
theorem dX7_approve_86 : decode cX7_approve 86 = .ok (.aload_n 0, 1) := by decide +kernel
theorem dX7_approve_87 : decode cX7_approve 87 = .ok (.getfield 28, 3) := by decide +kernel
theorem dX7_approve_90 : decode cX7_approve 90 = .ok (.iload_n 1, 1) := by decide +kernel
theorem dX7_approve_91 : decode cX7_approve 91 = .ok (.iaload, 1) := by decide +kernel
theorem dX7_approve_92 : decode cX7_approve 92 = .ok (.goto 13, 3) := by decide +kernel
theorem dX7_approve_95 : decode cX7_approve 95 = .ok (.aload_n 0, 1) := by decide +kernel
theorem dX7_approve_96 : decode cX7_approve 96 = .ok (.getfield 19, 3) := by decide +kernel
theorem dX7_approve_99 : decode cX7_approve 99 = .ok (.aload_n 0, 1) := by decide +kernel
theorem dX7_approve_100 : decode cX7_approve 100 = .ok (.iload_n 2, 1) := by decide +kernel
theorem dX7_approve_101 : decode cX7_approve 101 = .ok (.invokevirtual 97, 3) := by decide +kernel
theorem dX7_approve_104 : decode cX7_approve 104 = .ok (.iaload, 1) := by decide +kernel
theorem dX7_approve_105 : decode cX7_approve 105 = .ok (.iastore, 1) := by decide +kernel
theorem dX7_approve_106 : decode cX7_approve 106 = .ok (.iload_n 3, 1) := by decide +kernel
theorem dX7_approve_107 : decode cX7_approve 107 = .ok (.ireturn, 1) := by decide +kernel
theorem dX7_lock_0 : decode cX7_lock 0 = .ok (.aload_n 0, 1) := by decide +kernel
theorem dX7_lock_1 : decode cX7_lock 1 = .ok (.iload_n 1, 1) := by decide +kernel
theorem dX7_lock_2 : decode cX7_lock 2 = .ok (.invokestatic 125, 3) := by decide +kernel
theorem dX7_lock_5 : decode cX7_lock 5 = .ok (.ifCond .eq 14, 3) := by decide +kernel
theorem dX7_lock_8 : decode cX7_lock 8 = .ok (.iload_n 2, 1) := by decide +kernel
theorem dX7_lock_9 : decode cX7_lock 9 = .ok (.invokestatic 91, 3) := by decide +kernel
theorem dX7_lock_12 : decode cX7_lock 12 = .ok (.ifCond .eq 7, 3) := by decide +kernel
theorem dX7_lock_15 : decode cX7_lock 15 = .ok (.iconst 1, 1) := by decide +kernel
theorem dX7_lock_16 : decode cX7_lock 16 = .ok (.goto 4, 3) := by decide +kernel
theorem dX7_lock_19 : decode cX7_lock 19 = .ok (.iconst 0, 1) := by decide +kernel
theorem dX7_lock_20 : decode cX7_lock 20 = .ok (.iload_n 3, 1) := by decide +kernel
theorem dX7_lock_21 : decode cX7_lock 21 = .ok (.iconst 0, 1) := by decide +kernel
theorem dX7_lock_22 : decode cX7_lock 22 = .ok (.iconst 3, 1) := by decide +kernel
theorem dX7_lock_23 : decode cX7_lock 23 = .ok (.invokestatic 68, 3) := by decide +kernel
theorem dX7_lock_26 : decode cX7_lock 26 = .ok (.iconst 1, 1) := by decide +kernel
theorem dX7_lock_27 : decode cX7_lock 27 = .ok (.invokevirtual 83, 3) := by decide +kernel
theorem dX7_lock_30 : decode cX7_lock 30 = .ok (.ifCond .ne 5, 3) := by decide +kernel
theorem dX7_lock_33 : decode cX7_lock 33 = .ok (.iconst 0, 1) := by decide +kernel
theorem dX7_lock_34 : decode cX7_lock 34 = .ok (.ireturn, 1) := by decide +kernel
theorem dX7_lock_35 : decode cX7_lock 35 = .ok (.aload_n 0, 1) := by decide +kernel
theorem dX7_lock_36 : decode cX7_lock 36 = .ok (.getfield 25, 3) := by decide +kernel
theorem dX7_lock_39 : decode cX7_lock 39 = .ok (.iload_n 2, 1) := by decide +kernel
theorem dX7_lock_40 : decode cX7_lock 40 = .ok (.iaload, 1) := by decide +kernel
theorem dX7_lock_41 : decode cX7_lock 41 = .ok (.istore 4, 2) := by decide +kernel
theorem dX7_lock_43 : decode cX7_lock 43 = .ok (.aload_n 0, 1) := by decide +kernel
theorem dX7_lock_44 : decode cX7_lock 44 = .ok (.getfield 28, 3) := by decide +kernel
theorem dX7_lock_47 : decode cX7_lock 47 = .ok (.iload_n 1, 1) := by decide +kernel
theorem dX7_lock_48 : decode cX7_lock 48 = .ok (.iaload, 1) := by decide +kernel
theorem dX7_lock_49 : decode cX7_lock 49 = .ok (.iload 4, 2) := by decide +kernel
theorem dX7_lock_51 : decode cX7_lock 51 = .ok (.if_icmp .lt 13, 3) := by decide +kernel
theorem dX7_lock_54 : decode cX7_lock 54 = .ok (.aload_n 0, 1) := by decide +kernel
theorem dX7_lock_55 : decode cX7_lock 55 = .ok (.getfield 28, 3) := by decide +kernel
theorem dX7_lock_58 : decode cX7_lock 58 = .ok (.iload_n 1, 1) := by decide +kernel
theorem dX7_lock_59 : decode cX7_lock 59 = .ok (.iaload, 1) := by decide +kernel
theorem dX7_lock_60 : decode cX7_lock 60 = .ok (.iload_n 3, 1) := by decide +kernel
theorem dX7_lock_61 : decode cX7_lock 61 = .ok (.if_icmp .ge 6, 3) := by decide +kernel
theorem dX7_lock_64 : decode cX7_lock 64 = .ok (.bipush (-2), 2) := by decide +kernel
theorem dX7_lock_66 : decode cX7_lock 66 = .ok (.ireturn, 1) := by decide +kernel
theorem dX7_lock_67 : decode cX7_lock 67 = .ok (.aload_n 0, 1) := by decide +kernel
theorem dX7_lock_68 : decode cX7_lock 68 = .ok (.getfield 25, 3) := by decide +kernel
theorem dX7_lock_71 : decode cX7_lock 71 = .ok (.iload_n 2, 1) := by decide +kernel
theorem dX7_lock_72 : decode cX7_lock 72 = .ok (.iload_n 3, 1) := by decide +kernel
theorem dX7_lock_73 : decode cX7_lock 73 = .ok (.iastore, 1) := by decide +kernel
theorem dX7_lock_74 : decode cX7_lock 74 = .ok (.iload 4, 2) := by decide +kernel
theorem dX7_lock_76 : decode cX7_lock 76 = .ok (.ireturn, 1) := by decide +kernel
theorem dX7_setRank_0 : decode cX7_setRank 0 = .ok (.aload_n 0, 1) := by decide +kernel
theorem dX7_setRank_1 : decode cX7_setRank 1 = .ok (.iload_n 1, 1) := by decide +kernel
theorem dX7_setRank_2 : decode cX7_setRank 2 = .ok (.invokestatic 125, 3) := by decide +kernel
theorem dX7_setRank_5 : decode cX7_setRank 5 = .ok (.iload_n 2, 1) := by decide +kernel
theorem dX7_setRank_6 : decode cX7_setRank 6 = .ok (.iconst 0, 1) := by decide +kernel
theorem dX7_setRank_7 : decode cX7_setRank 7 = .ok (.iconst 3, 1) := by decide +kernel
theorem dX7_setRank_8 : decode cX7_setRank 8 = .ok (.invokestatic 68, 3) := by decide +kernel
theorem dX7_setRank_11 : decode cX7_setRank 11 = .ok (.iconst 1, 1) := by decide +kernel
theorem dX7_setRank_12 : decode cX7_setRank 12 = .ok (.invokevirtual 83, 3) := by decide +kernel
theorem dX7_setRank_15 : decode cX7_setRank 15 = .ok (.ifCond .ne 5, 3) := by decide +kernel
theorem dX7_setRank_18 : decode cX7_setRank 18 = .ok (.iconst 0, 1) := by decide +kernel
theorem dX7_setRank_19 : decode cX7_setRank 19 = .ok (.ireturn, 1) := by decide +kernel
theorem dX7_setRank_20 : decode cX7_setRank 20 = .ok (.aload_n 0, 1) := by decide +kernel
theorem dX7_setRank_21 : decode cX7_setRank 21 = .ok (.getfield 28, 3) := by decide +kernel
theorem dX7_setRank_24 : decode cX7_setRank 24 = .ok (.iload_n 1, 1) := by decide +kernel
theorem dX7_setRank_25 : decode cX7_setRank 25 = .ok (.iaload, 1) := by decide +kernel
theorem dX7_setRank_26 : decode cX7_setRank 26 = .ok (.istore_n 3, 1) := by decide +kernel
theorem dX7_setRank_27 : decode cX7_setRank 27 = .ok (.aload_n 0, 1) := by decide +kernel
theorem dX7_setRank_28 : decode cX7_setRank 28 = .ok (.getfield 28, 3) := by decide +kernel
theorem dX7_setRank_31 : decode cX7_setRank 31 = .ok (.iload_n 1, 1) := by decide +kernel
theorem dX7_setRank_32 : decode cX7_setRank 32 = .ok (.iload_n 2, 1) := by decide +kernel
theorem dX7_setRank_33 : decode cX7_setRank 33 = .ok (.iastore, 1) := by decide +kernel
theorem dX7_setRank_34 : decode cX7_setRank 34 = .ok (.iload_n 3, 1) := by decide +kernel
theorem dX7_setRank_35 : decode cX7_setRank 35 = .ok (.ireturn, 1) := by decide +kernel
theorem dX7_version_0 : decode cX7_version 0 = .ok (.aload_n 0, 1) := by decide +kernel
theorem dX7_version_1 : decode cX7_version 1 = .ok (.iload_n 1, 1) := by decide +kernel
theorem dX7_version_2 : decode cX7_version 2 = .ok (.invokestatic 91, 3) := by decide +kernel
theorem dX7_version_5 : decode cX7_version 5 = .ok (.iconst 1, 1) := by decide +kernel
theorem dX7_version_6 : decode cX7_version 6 = .ok (.iconst 1, 1) := by decide +kernel
theorem dX7_version_7 : decode cX7_version 7 = .ok (.invokevirtual 83, 3) := by decide +kernel
theorem dX7_version_10 : decode cX7_version 10 = .ok (.ifCond .eq 12, 3) := by decide +kernel
theorem dX7_version_13 : decode cX7_version 13 = .ok (.aload_n 0, 1) := by decide +kernel
theorem dX7_version_14 : decode cX7_version 14 = .ok (.getfield 22, 3) := by decide +kernel
theorem dX7_version_17 : decode cX7_version 17 = .ok (.iload_n 1, 1) := by decide +kernel
theorem dX7_version_18 : decode cX7_version 18 = .ok (.iaload, 1) := by decide +kernel
theorem dX7_version_19 : decode cX7_version 19 = .ok (.goto 4, 3) := by decide +kernel
theorem dX7_version_22 : decode cX7_version 22 = .ok (.iconst 0, 1) := by decide +kernel
theorem dX7_version_23 : decode cX7_version 23 = .ok (.ireturn, 1) := by decide +kernel
theorem dX7_rankOf_0 : decode cX7_rankOf 0 = .ok (.aload_n 0, 1) := by decide +kernel
theorem dX7_rankOf_1 : decode cX7_rankOf 1 = .ok (.iload_n 1, 1) := by decide +kernel
theorem dX7_rankOf_2 : decode cX7_rankOf 2 = .ok (.invokestatic 91, 3) := by decide +kernel
theorem dX7_rankOf_5 : decode cX7_rankOf 5 = .ok (.iconst 1, 1) := by decide +kernel
theorem dX7_rankOf_6 : decode cX7_rankOf 6 = .ok (.iconst 1, 1) := by decide +kernel
theorem dX7_rankOf_7 : decode cX7_rankOf 7 = .ok (.invokevirtual 83, 3) := by decide +kernel
theorem dX7_rankOf_10 : decode cX7_rankOf 10 = .ok (.ifCond .eq 16, 3) := by decide +kernel
theorem dX7_rankOf_13 : decode cX7_rankOf 13 = .ok (.aload_n 0, 1) := by decide +kernel
theorem dX7_rankOf_14 : decode cX7_rankOf 14 = .ok (.getfield 19, 3) := by decide +kernel
theorem dX7_rankOf_17 : decode cX7_rankOf 17 = .ok (.aload_n 0, 1) := by decide +kernel
theorem dX7_rankOf_18 : decode cX7_rankOf 18 = .ok (.iload_n 1, 1) := by decide +kernel
theorem dX7_rankOf_19 : decode cX7_rankOf 19 = .ok (.invokevirtual 97, 3) := by decide +kernel
theorem dX7_rankOf_22 : decode cX7_rankOf 22 = .ok (.iaload, 1) := by decide +kernel
theorem dX7_rankOf_23 : decode cX7_rankOf 23 = .ok (.goto 4, 3) := by decide +kernel
theorem dX7_rankOf_26 : decode cX7_rankOf 26 = .ok (.iconst 0, 1) := by decide +kernel
theorem dX7_rankOf_27 : decode cX7_rankOf 27 = .ok (.ireturn, 1) := by decide +kernel
theorem dX7_force_0 : decode cX7_force 0 = .ok (.aload_n 0, 1) := by decide +kernel
theorem dX7_force_1 : decode cX7_force 1 = .ok (.iload_n 1, 1) := by decide +kernel
theorem dX7_force_2 : decode cX7_force 2 = .ok (.invokestatic 91, 3) := by decide +kernel
theorem dX7_force_5 : decode cX7_force 5 = .ok (.iconst 1, 1) := by decide +kernel
theorem dX7_force_6 : decode cX7_force 6 = .ok (.iconst 1, 1) := by decide +kernel
theorem dX7_force_7 : decode cX7_force 7 = .ok (.invokevirtual 83, 3) := by decide +kernel
theorem dX7_force_10 : decode cX7_force 10 = .ok (.ifCond .ne 5, 3) := by decide +kernel
theorem dX7_force_13 : decode cX7_force 13 = .ok (.iconst 0, 1) := by decide +kernel
theorem dX7_force_14 : decode cX7_force 14 = .ok (.ireturn, 1) := by decide +kernel
theorem dX7_force_15 : decode cX7_force 15 = .ok (.aload_n 0, 1) := by decide +kernel
theorem dX7_force_16 : decode cX7_force 16 = .ok (.invokevirtual 112, 3) := by decide +kernel
theorem dX7_force_19 : decode cX7_force 19 = .ok (.aload_n 0, 1) := by decide +kernel
theorem dX7_force_20 : decode cX7_force 20 = .ok (.iload_n 1, 1) := by decide +kernel
theorem dX7_force_21 : decode cX7_force 21 = .ok (.invokevirtual 115, 3) := by decide +kernel
theorem dX7_force_24 : decode cX7_force 24 = .ok (.ireturn, 1) := by decide +kernel
theorem dX7_reaches_0 : decode cX7_reaches 0 = .ok (.aload_n 0, 1) := by decide +kernel
theorem dX7_reaches_1 : decode cX7_reaches 1 = .ok (.iload_n 1, 1) := by decide +kernel
theorem dX7_reaches_2 : decode cX7_reaches 2 = .ok (.invokestatic 91, 3) := by decide +kernel
theorem dX7_reaches_5 : decode cX7_reaches 5 = .ok (.iconst 1, 1) := by decide +kernel
theorem dX7_reaches_6 : decode cX7_reaches 6 = .ok (.iconst 1, 1) := by decide +kernel
theorem dX7_reaches_7 : decode cX7_reaches 7 = .ok (.invokevirtual 83, 3) := by decide +kernel
theorem dX7_reaches_10 : decode cX7_reaches 10 = .ok (.ifCond .ne 5, 3) := by decide +kernel
theorem dX7_reaches_13 : decode cX7_reaches 13 = .ok (.iconst 0, 1) := by decide +kernel
theorem dX7_reaches_14 : decode cX7_reaches 14 = .ok (.ireturn, 1) := by decide +kernel
theorem dX7_reaches_15 : decode cX7_reaches 15 = .ok (.aload_n 0, 1) := by decide +kernel
theorem dX7_reaches_16 : decode cX7_reaches 16 = .ok (.invokevirtual 112, 3) := by decide +kernel
theorem dX7_reaches_19 : decode cX7_reaches 19 = .ok (.aload_n 0, 1) := by decide +kernel
theorem dX7_reaches_20 : decode cX7_reaches 20 = .ok (.getfield 37, 3) := by decide +kernel
theorem dX7_reaches_23 : decode cX7_reaches 23 = .ok (.iload_n 1, 1) := by decide +kernel
theorem dX7_reaches_24 : decode cX7_reaches 24 = .ok (.iaload, 1) := by decide +kernel
theorem dX7_reaches_25 : decode cX7_reaches 25 = .ok (.ireturn, 1) := by decide +kernel
theorem dX7_extent_0 : decode cX7_extent 0 = .ok (.aload_n 0, 1) := by decide +kernel
theorem dX7_extent_1 : decode cX7_extent 1 = .ok (.iload_n 1, 1) := by decide +kernel
theorem dX7_extent_2 : decode cX7_extent 2 = .ok (.invokestatic 91, 3) := by decide +kernel
theorem dX7_extent_5 : decode cX7_extent 5 = .ok (.iconst 1, 1) := by decide +kernel
theorem dX7_extent_6 : decode cX7_extent 6 = .ok (.iconst 1, 1) := by decide +kernel
theorem dX7_extent_7 : decode cX7_extent 7 = .ok (.invokevirtual 83, 3) := by decide +kernel
theorem dX7_extent_10 : decode cX7_extent 10 = .ok (.ifCond .ne 5, 3) := by decide +kernel
theorem dX7_extent_13 : decode cX7_extent 13 = .ok (.iconst 0, 1) := by decide +kernel
theorem dX7_extent_14 : decode cX7_extent 14 = .ok (.ireturn, 1) := by decide +kernel
theorem dX7_extent_15 : decode cX7_extent 15 = .ok (.aload_n 0, 1) := by decide +kernel
theorem dX7_extent_16 : decode cX7_extent 16 = .ok (.invokevirtual 112, 3) := by decide +kernel
theorem dX7_extent_19 : decode cX7_extent 19 = .ok (.aload_n 0, 1) := by decide +kernel
theorem dX7_extent_20 : decode cX7_extent 20 = .ok (.invokevirtual 118, 3) := by decide +kernel
theorem dX7_extent_23 : decode cX7_extent 23 = .ok (.aload_n 0, 1) := by decide +kernel
theorem dX7_extent_24 : decode cX7_extent 24 = .ok (.getfield 43, 3) := by decide +kernel
theorem dX7_extent_27 : decode cX7_extent 27 = .ok (.iload_n 1, 1) := by decide +kernel
theorem dX7_extent_28 : decode cX7_extent 28 = .ok (.iaload, 1) := by decide +kernel
theorem dX7_extent_29 : decode cX7_extent 29 = .ok (.ireturn, 1) := by decide +kernel
theorem dX7_shows_0 : decode cX7_shows 0 = .ok (.aload_n 0, 1) := by decide +kernel
theorem dX7_shows_1 : decode cX7_shows 1 = .ok (.getfield 46, 3) := by decide +kernel
theorem dX7_shows_4 : decode cX7_shows 4 = .ok (.aload_n 0, 1) := by decide +kernel
theorem dX7_shows_5 : decode cX7_shows 5 = .ok (.getfield 131, 3) := by decide +kernel
theorem dX7_shows_8 : decode cX7_shows 8 = .ok (.iload_n 1, 1) := by decide +kernel
theorem dX7_shows_9 : decode cX7_shows 9 = .ok (.iastore, 1) := by decide +kernel
theorem dX7_shows_10 : decode cX7_shows 10 = .ok (.aload_n 0, 1) := by decide +kernel
theorem dX7_shows_11 : decode cX7_shows 11 = .ok (.getfield 49, 3) := by decide +kernel
theorem dX7_shows_14 : decode cX7_shows 14 = .ok (.aload_n 0, 1) := by decide +kernel
theorem dX7_shows_15 : decode cX7_shows 15 = .ok (.getfield 131, 3) := by decide +kernel
theorem dX7_shows_18 : decode cX7_shows 18 = .ok (.iload_n 2, 1) := by decide +kernel
theorem dX7_shows_19 : decode cX7_shows 19 = .ok (.iastore, 1) := by decide +kernel
theorem dX7_shows_20 : decode cX7_shows 20 = .ok (.aload_n 0, 1) := by decide +kernel
theorem dX7_shows_21 : decode cX7_shows 21 = .ok (.getfield 52, 3) := by decide +kernel
theorem dX7_shows_24 : decode cX7_shows 24 = .ok (.aload_n 0, 1) := by decide +kernel
theorem dX7_shows_25 : decode cX7_shows 25 = .ok (.getfield 131, 3) := by decide +kernel
theorem dX7_shows_28 : decode cX7_shows 28 = .ok (.iload_n 3, 1) := by decide +kernel
theorem dX7_shows_29 : decode cX7_shows 29 = .ok (.iastore, 1) := by decide +kernel
theorem dX7_shows_30 : decode cX7_shows 30 = .ok (.aload_n 0, 1) := by decide +kernel
theorem dX7_shows_31 : decode cX7_shows 31 = .ok (.dup, 1) := by decide +kernel
theorem dX7_shows_32 : decode cX7_shows 32 = .ok (.getfield 131, 3) := by decide +kernel
theorem dX7_shows_35 : decode cX7_shows 35 = .ok (.iconst 1, 1) := by decide +kernel
theorem dX7_shows_36 : decode cX7_shows 36 = .ok (.iadd, 1) := by decide +kernel
theorem dX7_shows_37 : decode cX7_shows 37 = .ok (.putfield 131, 3) := by decide +kernel
theorem dX7_shows_40 : decode cX7_shows 40 = .ok (.return_, 1) := by decide +kernel
theorem dX7_behind_0 : decode cX7_behind 0 = .ok (.iconst 1, 1) := by decide +kernel
theorem dX7_behind_1 : decode cX7_behind 1 = .ok (.istore_n 3, 1) := by decide +kernel
theorem dX7_behind_2 : decode cX7_behind 2 = .ok (.iload_n 2, 1) := by decide +kernel
theorem dX7_behind_3 : decode cX7_behind 3 = .ok (.iconst 1, 1) := by decide +kernel
theorem dX7_behind_4 : decode cX7_behind 4 = .ok (.iadd, 1) := by decide +kernel
theorem dX7_behind_5 : decode cX7_behind 5 = .ok (.istore 4, 2) := by decide +kernel
theorem dX7_behind_7 : decode cX7_behind 7 = .ok (.iload_n 3, 1) := by decide +kernel
theorem dX7_behind_8 : decode cX7_behind 8 = .ok (.ifCond .le 51, 3) := by decide +kernel
theorem dX7_behind_11 : decode cX7_behind 11 = .ok (.aload_n 0, 1) := by decide +kernel
theorem dX7_behind_12 : decode cX7_behind 12 = .ok (.getfield 13, 3) := by decide +kernel
theorem dX7_behind_15 : decode cX7_behind 15 = .ok (.bipush 30, 2) := by decide +kernel
theorem dX7_behind_17 : decode cX7_behind 17 = .ok (.iload_n 1, 1) := by decide +kernel
theorem dX7_behind_18 : decode cX7_behind 18 = .ok (.imul, 1) := by decide +kernel
theorem dX7_behind_19 : decode cX7_behind 19 = .ok (.iload 4, 2) := by decide +kernel
theorem dX7_behind_21 : decode cX7_behind 21 = .ok (.iadd, 1) := by decide +kernel
theorem dX7_behind_22 : decode cX7_behind 22 = .ok (.iaload, 1) := by decide +kernel
theorem dX7_behind_23 : decode cX7_behind 23 = .ok (.sipush 10000, 3) := by decide +kernel
theorem dX7_behind_26 : decode cX7_behind 26 = .ok (.idiv, 1) := by decide +kernel
theorem dX7_behind_27 : decode cX7_behind 27 = .ok (.istore 5, 2) := by decide +kernel
theorem dX7_behind_29 : decode cX7_behind 29 = .ok (.iload_n 3, 1) := by decide +kernel
theorem dX7_behind_30 : decode cX7_behind 30 = .ok (.iload 5, 2) := by decide +kernel
theorem dX7_behind_32 : decode cX7_behind 32 = .ok (.iconst 4, 1) := by decide +kernel
theorem dX7_behind_33 : decode cX7_behind 33 = .ok (.if_icmp .ne 7, 3) := by decide +kernel
theorem dX7_behind_36 : decode cX7_behind 36 = .ok (.iconst 1, 1) := by decide +kernel
theorem dX7_behind_37 : decode cX7_behind 37 = .ok (.goto 14, 3) := by decide +kernel
theorem dX7_behind_40 : decode cX7_behind 40 = .ok (.iload 5, 2) := by decide +kernel
theorem dX7_behind_42 : decode cX7_behind 42 = .ok (.iconst 5, 1) := by decide +kernel
theorem dX7_behind_43 : decode cX7_behind 43 = .ok (.if_icmp .ne 7, 3) := by decide +kernel
theorem dX7_behind_46 : decode cX7_behind 46 = .ok (.iconst (-1), 1) := by decide +kernel
theorem dX7_behind_47 : decode cX7_behind 47 = .ok (.goto 4, 3) := by decide +kernel
theorem dX7_behind_50 : decode cX7_behind 50 = .ok (.iconst 0, 1) := by decide +kernel
theorem dX7_behind_51 : decode cX7_behind 51 = .ok (.iadd, 1) := by decide +kernel
theorem dX7_behind_52 : decode cX7_behind 52 = .ok (.istore_n 3, 1) := by decide +kernel
theorem dX7_behind_53 : decode cX7_behind 53 = .ok (.iinc 4 1, 3) := by decide +kernel
theorem dX7_behind_56 : decode cX7_behind 56 = .ok (.goto (-49), 3) := by decide +kernel
theorem dX7_behind_59 : decode cX7_behind 59 = .ok (.iload 4, 2) := by decide +kernel
theorem dX7_behind_61 : decode cX7_behind 61 = .ok (.ireturn, 1) := by decide +kernel
theorem dX7_lays_0 : decode cX7_lays 0 = .ok (.iconst 0, 1) := by decide +kernel
theorem dX7_lays_1 : decode cX7_lays 1 = .ok (.istore_n 3, 1) := by decide +kernel
theorem dX7_lays_2 : decode cX7_lays 2 = .ok (.aload_n 0, 1) := by decide +kernel
theorem dX7_lays_3 : decode cX7_lays 3 = .ok (.iconst 0, 1) := by decide +kernel
theorem dX7_lays_4 : decode cX7_lays 4 = .ok (.putfield 131, 3) := by decide +kernel
theorem dX7_lays_7 : decode cX7_lays 7 = .ok (.aload_n 0, 1) := by decide +kernel
theorem dX7_lays_8 : decode cX7_lays 8 = .ok (.getfield 55, 3) := by decide +kernel
theorem dX7_lays_11 : decode cX7_lays 11 = .ok (.iconst 0, 1) := by decide +kernel
theorem dX7_lays_12 : decode cX7_lays 12 = .ok (.iload_n 1, 1) := by decide +kernel
theorem dX7_lays_13 : decode cX7_lays 13 = .ok (.iastore, 1) := by decide +kernel
theorem dX7_lays_14 : decode cX7_lays 14 = .ok (.aload_n 0, 1) := by decide +kernel
theorem dX7_lays_15 : decode cX7_lays 15 = .ok (.getfield 58, 3) := by decide +kernel
theorem dX7_lays_18 : decode cX7_lays 18 = .ok (.iconst 0, 1) := by decide +kernel
theorem dX7_lays_19 : decode cX7_lays 19 = .ok (.iconst 0, 1) := by decide +kernel
theorem dX7_lays_20 : decode cX7_lays 20 = .ok (.iastore, 1) := by decide +kernel
theorem dX7_lays_21 : decode cX7_lays 21 = .ok (.aload_n 0, 1) := by decide +kernel
theorem dX7_lays_22 : decode cX7_lays 22 = .ok (.getfield 61, 3) := by decide +kernel
theorem dX7_lays_25 : decode cX7_lays 25 = .ok (.iconst 0, 1) := by decide +kernel
theorem dX7_lays_26 : decode cX7_lays 26 = .ok (.iload_n 2, 1) := by decide +kernel
theorem dX7_lays_27 : decode cX7_lays 27 = .ok (.iastore, 1) := by decide +kernel
theorem dX7_lays_28 : decode cX7_lays 28 = .ok (.iload_n 3, 1) := by decide +kernel
theorem dX7_lays_29 : decode cX7_lays 29 = .ok (.ifCond .lt 293, 3) := by decide +kernel
theorem dX7_lays_32 : decode cX7_lays 32 = .ok (.aload_n 0, 1) := by decide +kernel
theorem dX7_lays_33 : decode cX7_lays 33 = .ok (.getfield 55, 3) := by decide +kernel
theorem dX7_lays_36 : decode cX7_lays 36 = .ok (.iload_n 3, 1) := by decide +kernel
theorem dX7_lays_37 : decode cX7_lays 37 = .ok (.iaload, 1) := by decide +kernel
theorem dX7_lays_38 : decode cX7_lays 38 = .ok (.istore 4, 2) := by decide +kernel
theorem dX7_lays_40 : decode cX7_lays 40 = .ok (.aload_n 0, 1) := by decide +kernel
theorem dX7_lays_41 : decode cX7_lays 41 = .ok (.getfield 58, 3) := by decide +kernel
theorem dX7_lays_44 : decode cX7_lays 44 = .ok (.iload_n 3, 1) := by decide +kernel
theorem dX7_lays_45 : decode cX7_lays 45 = .ok (.iaload, 1) := by decide +kernel
theorem dX7_lays_46 : decode cX7_lays 46 = .ok (.istore 5, 2) := by decide +kernel
theorem dX7_lays_48 : decode cX7_lays 48 = .ok (.iload 5, 2) := by decide +kernel
theorem dX7_lays_50 : decode cX7_lays 50 = .ok (.aload_n 0, 1) := by decide +kernel
theorem dX7_lays_51 : decode cX7_lays 51 = .ok (.getfield 16, 3) := by decide +kernel
theorem dX7_lays_54 : decode cX7_lays 54 = .ok (.aload_n 0, 1) := by decide +kernel
theorem dX7_lays_55 : decode cX7_lays 55 = .ok (.iload 4, 2) := by decide +kernel
theorem dX7_lays_57 : decode cX7_lays 57 = .ok (.invokevirtual 97, 3) := by decide +kernel
theorem dX7_lays_60 : decode cX7_lays 60 = .ok (.iaload, 1) := by decide +kernel
theorem dX7_lays_61 : decode cX7_lays 61 = .ok (.if_icmp .ne 9, 3) := by decide +kernel
theorem dX7_lays_64 : decode cX7_lays 64 = .ok (.iinc 3 (-1), 3) := by decide +kernel
theorem dX7_lays_67 : decode cX7_lays 67 = .ok (.goto 252, 3) := by decide +kernel
theorem dX7_lays_70 : decode cX7_lays 70 = .ok (.aload_n 0, 1) := by decide +kernel
theorem dX7_lays_71 : decode cX7_lays 71 = .ok (.getfield 13, 3) := by decide +kernel
theorem dX7_lays_74 : decode cX7_lays 74 = .ok (.bipush 30, 2) := by decide +kernel
theorem dX7_lays_76 : decode cX7_lays 76 = .ok (.aload_n 0, 1) := by decide +kernel
theorem dX7_lays_77 : decode cX7_lays 77 = .ok (.iload 4, 2) := by decide +kernel
theorem dX7_lays_79 : decode cX7_lays 79 = .ok (.invokevirtual 97, 3) := by decide +kernel
theorem dX7_lays_82 : decode cX7_lays 82 = .ok (.imul, 1) := by decide +kernel
theorem dX7_lays_83 : decode cX7_lays 83 = .ok (.iload 5, 2) := by decide +kernel
theorem dX7_lays_85 : decode cX7_lays 85 = .ok (.iadd, 1) := by decide +kernel
theorem dX7_lays_86 : decode cX7_lays 86 = .ok (.iaload, 1) := by decide +kernel
theorem dX7_lays_87 : decode cX7_lays 87 = .ok (.istore 6, 2) := by decide +kernel
theorem dX7_lays_89 : decode cX7_lays 89 = .ok (.iload 6, 2) := by decide +kernel
theorem dX7_lays_91 : decode cX7_lays 91 = .ok (.sipush 10000, 3) := by decide +kernel
theorem dX7_lays_94 : decode cX7_lays 94 = .ok (.idiv, 1) := by decide +kernel
theorem dX7_lays_95 : decode cX7_lays 95 = .ok (.istore 7, 2) := by decide +kernel
theorem dX7_lays_97 : decode cX7_lays 97 = .ok (.iload 6, 2) := by decide +kernel
theorem dX7_lays_99 : decode cX7_lays 99 = .ok (.bipush 100, 2) := by decide +kernel
theorem dX7_lays_101 : decode cX7_lays 101 = .ok (.idiv, 1) := by decide +kernel
theorem dX7_lays_102 : decode cX7_lays 102 = .ok (.bipush 100, 2) := by decide +kernel
theorem dX7_lays_104 : decode cX7_lays 104 = .ok (.irem, 1) := by decide +kernel
theorem dX7_lays_105 : decode cX7_lays 105 = .ok (.istore 8, 2) := by decide +kernel
theorem dX7_lays_107 : decode cX7_lays 107 = .ok (.iload 6, 2) := by decide +kernel
theorem dX7_lays_109 : decode cX7_lays 109 = .ok (.bipush 100, 2) := by decide +kernel
theorem dX7_lays_111 : decode cX7_lays 111 = .ok (.irem, 1) := by decide +kernel
theorem dX7_lays_112 : decode cX7_lays 112 = .ok (.iconst 1, 1) := by decide +kernel
theorem dX7_lays_113 : decode cX7_lays 113 = .ok (.isub, 1) := by decide +kernel
theorem dX7_lays_114 : decode cX7_lays 114 = .ok (.istore 9, 2) := by decide +kernel
theorem dX7_lays_116 : decode cX7_lays 116 = .ok (.aload_n 0, 1) := by decide +kernel
theorem dX7_lays_117 : decode cX7_lays 117 = .ok (.getfield 58, 3) := by decide +kernel
theorem dX7_lays_120 : decode cX7_lays 120 = .ok (.iload_n 3, 1) := by decide +kernel
theorem dX7_lays_121 : decode cX7_lays 121 = .ok (.iload 7, 2) := by decide +kernel
theorem dX7_lays_123 : decode cX7_lays 123 = .ok (.iconst 4, 1) := by decide +kernel
theorem dX7_lays_124 : decode cX7_lays 124 = .ok (.if_icmp .ne 29, 3) := by decide +kernel
theorem dX7_lays_127 : decode cX7_lays 127 = .ok (.aload_n 0, 1) := by decide +kernel
theorem dX7_lays_128 : decode cX7_lays 128 = .ok (.getfield 61, 3) := by decide +kernel
theorem dX7_lays_131 : decode cX7_lays 131 = .ok (.iload_n 3, 1) := by decide +kernel
theorem dX7_lays_132 : decode cX7_lays 132 = .ok (.iaload, 1) := by decide +kernel
theorem dX7_lays_133 : decode cX7_lays 133 = .ok (.iload 8, 2) := by decide +kernel
theorem dX7_lays_135 : decode cX7_lays 135 = .ok (.if_icmp .eq 18, 3) := by decide +kernel
theorem dX7_lays_138 : decode cX7_lays 138 = .ok (.aload_n 0, 1) := by decide +kernel
theorem dX7_lays_139 : decode cX7_lays 139 = .ok (.aload_n 0, 1) := by decide +kernel
theorem dX7_lays_140 : decode cX7_lays 140 = .ok (.iload 4, 2) := by decide +kernel
theorem dX7_lays_142 : decode cX7_lays 142 = .ok (.invokevirtual 97, 3) := by decide +kernel
theorem dX7_lays_145 : decode cX7_lays 145 = .ok (.iload 5, 2) := by decide +kernel
theorem dX7_lays_147 : decode cX7_lays 147 = .ok (.invokevirtual 134, 3) := by decide +kernel
theorem dX7_lays_150 : decode cX7_lays 150 = .ok (.goto 7, 3) := by decide +kernel
theorem dX7_lays_153 : decode cX7_lays 153 = .ok (.iload 5, 2) := by decide +kernel
theorem dX7_lays_155 : decode cX7_lays 155 = .ok (.iconst 1, 1) := by decide +kernel
theorem dX7_lays_156 : decode cX7_lays 156 = .ok (.iadd, 1) := by decide +kernel
theorem dX7_lays_157 : decode cX7_lays 157 = .ok (.iastore, 1) := by decide +kernel
theorem dX7_lays_158 : decode cX7_lays 158 = .ok (.iload 7, 2) := by decide +kernel
theorem dX7_lays_160 : decode cX7_lays 160 = .ok (.ifCond .eq 19, 3) := by decide +kernel
theorem dX7_lays_163 : decode cX7_lays 163 = .ok (.iload 7, 2) := by decide +kernel
theorem dX7_lays_165 : decode cX7_lays 165 = .ok (.iconst 1, 1) := by decide +kernel
theorem dX7_lays_166 : decode cX7_lays 166 = .ok (.if_icmp .ne 39, 3) := by decide +kernel
theorem dX7_lays_169 : decode cX7_lays 169 = .ok (.aload_n 0, 1) := by decide +kernel
theorem dX7_lays_170 : decode cX7_lays 170 = .ok (.getfield 61, 3) := by decide +kernel
theorem dX7_lays_173 : decode cX7_lays 173 = .ok (.iload_n 3, 1) := by decide +kernel
theorem dX7_lays_174 : decode cX7_lays 174 = .ok (.iaload, 1) := by decide +kernel
theorem dX7_lays_175 : decode cX7_lays 175 = .ok (.iconst (-1), 1) := by decide +kernel
theorem dX7_lays_176 : decode cX7_lays 176 = .ok (.if_icmp .eq 29, 3) := by decide +kernel
theorem dX7_lays_179 : decode cX7_lays 179 = .ok (.aload_n 0, 1) := by decide +kernel
theorem dX7_lays_180 : decode cX7_lays 180 = .ok (.iconst 0, 1) := by decide +kernel
theorem dX7_lays_181 : decode cX7_lays 181 = .ok (.iload 7, 2) := by decide +kernel
theorem dX7_lays_183 : decode cX7_lays 183 = .ok (.ifCond .ne 8, 3) := by decide +kernel
theorem dX7_lays_186 : decode cX7_lays 186 = .ok (.iload 8, 2) := by decide +kernel
theorem dX7_lays_188 : decode cX7_lays 188 = .ok (.goto 9, 3) := by decide +kernel
theorem dX7_lays_191 : decode cX7_lays 191 = .ok (.aload_n 0, 1) := by decide +kernel
theorem dX7_lays_192 : decode cX7_lays 192 = .ok (.getfield 61, 3) := by decide +kernel
theorem dX7_lays_195 : decode cX7_lays 195 = .ok (.iload_n 3, 1) := by decide +kernel
theorem dX7_lays_196 : decode cX7_lays 196 = .ok (.iaload, 1) := by decide +kernel
theorem dX7_lays_197 : decode cX7_lays 197 = .ok (.iload 4, 2) := by decide +kernel
theorem dX7_lays_199 : decode cX7_lays 199 = .ok (.invokevirtual 138, 3) := by decide +kernel
theorem dX7_lays_202 : decode cX7_lays 202 = .ok (.goto 117, 3) := by decide +kernel
theorem dX7_lays_205 : decode cX7_lays 205 = .ok (.iload 7, 2) := by decide +kernel
theorem dX7_lays_207 : decode cX7_lays 207 = .ok (.bipush 6, 2) := by decide +kernel
theorem dX7_lays_209 : decode cX7_lays 209 = .ok (.if_icmp .eq 10, 3) := by decide +kernel
theorem dX7_lays_212 : decode cX7_lays 212 = .ok (.iload 7, 2) := by decide +kernel
theorem dX7_lays_214 : decode cX7_lays 214 = .ok (.bipush 7, 2) := by decide +kernel
theorem dX7_lays_216 : decode cX7_lays 216 = .ok (.if_icmp .ne 44, 3) := by decide +kernel
theorem dX7_lays_219 : decode cX7_lays 219 = .ok (.aload_n 0, 1) := by decide +kernel
theorem dX7_lays_220 : decode cX7_lays 220 = .ok (.iload 7, 2) := by decide +kernel
theorem dX7_lays_222 : decode cX7_lays 222 = .ok (.bipush 6, 2) := by decide +kernel
theorem dX7_lays_224 : decode cX7_lays 224 = .ok (.if_icmp .ne 7, 3) := by decide +kernel
theorem dX7_lays_227 : decode cX7_lays 227 = .ok (.iconst 1, 1) := by decide +kernel
theorem dX7_lays_228 : decode cX7_lays 228 = .ok (.goto 4, 3) := by decide +kernel
theorem dX7_lays_231 : decode cX7_lays 231 = .ok (.iconst 2, 1) := by decide +kernel
theorem dX7_lays_232 : decode cX7_lays 232 = .ok (.iload 7, 2) := by decide +kernel
theorem dX7_lays_234 : decode cX7_lays 234 = .ok (.bipush 6, 2) := by decide +kernel
theorem dX7_lays_236 : decode cX7_lays 236 = .ok (.if_icmp .ne 8, 3) := by decide +kernel
theorem dX7_lays_239 : decode cX7_lays 239 = .ok (.iload 8, 2) := by decide +kernel
theorem dX7_lays_241 : decode cX7_lays 241 = .ok (.goto 11, 3) := by decide +kernel
theorem dX7_lays_244 : decode cX7_lays 244 = .ok (.bipush 10, 2) := by decide +kernel
theorem dX7_lays_246 : decode cX7_lays 246 = .ok (.iload 8, 2) := by decide +kernel
theorem dX7_lays_248 : decode cX7_lays 248 = .ok (.imul, 1) := by decide +kernel
theorem dX7_lays_249 : decode cX7_lays 249 = .ok (.iload 9, 2) := by decide +kernel
theorem dX7_lays_251 : decode cX7_lays 251 = .ok (.iadd, 1) := by decide +kernel
theorem dX7_lays_252 : decode cX7_lays 252 = .ok (.iload 4, 2) := by decide +kernel
theorem dX7_lays_254 : decode cX7_lays 254 = .ok (.invokevirtual 138, 3) := by decide +kernel
theorem dX7_lays_257 : decode cX7_lays 257 = .ok (.goto 62, 3) := by decide +kernel
theorem dX7_lays_260 : decode cX7_lays 260 = .ok (.iload 7, 2) := by decide +kernel
theorem dX7_lays_262 : decode cX7_lays 262 = .ok (.iconst 2, 1) := by decide +kernel
theorem dX7_lays_263 : decode cX7_lays 263 = .ok (.if_icmp .eq 9, 3) := by decide +kernel
theorem dX7_lays_266 : decode cX7_lays 266 = .ok (.iload 7, 2) := by decide +kernel
theorem dX7_lays_268 : decode cX7_lays 268 = .ok (.iconst 3, 1) := by decide +kernel
theorem dX7_lays_269 : decode cX7_lays 269 = .ok (.if_icmp .ne 50, 3) := by decide +kernel
theorem dX7_lays_272 : decode cX7_lays 272 = .ok (.aload_n 0, 1) := by decide +kernel
theorem dX7_lays_273 : decode cX7_lays 273 = .ok (.getfield 55, 3) := by decide +kernel
theorem dX7_lays_276 : decode cX7_lays 276 = .ok (.iload_n 3, 1) := by decide +kernel
theorem dX7_lays_277 : decode cX7_lays 277 = .ok (.iconst 1, 1) := by decide +kernel
theorem dX7_lays_278 : decode cX7_lays 278 = .ok (.iadd, 1) := by decide +kernel
theorem dX7_lays_279 : decode cX7_lays 279 = .ok (.iload 8, 2) := by decide +kernel
theorem dX7_lays_281 : decode cX7_lays 281 = .ok (.iastore, 1) := by decide +kernel
theorem dX7_lays_282 : decode cX7_lays 282 = .ok (.aload_n 0, 1) := by decide +kernel
theorem dX7_lays_283 : decode cX7_lays 283 = .ok (.getfield 58, 3) := by decide +kernel
theorem dX7_lays_286 : decode cX7_lays 286 = .ok (.iload_n 3, 1) := by decide +kernel
theorem dX7_lays_287 : decode cX7_lays 287 = .ok (.iconst 1, 1) := by decide +kernel
theorem dX7_lays_288 : decode cX7_lays 288 = .ok (.iadd, 1) := by decide +kernel
theorem dX7_lays_289 : decode cX7_lays 289 = .ok (.iconst 0, 1) := by decide +kernel
theorem dX7_lays_290 : decode cX7_lays 290 = .ok (.iastore, 1) := by decide +kernel
theorem dX7_lays_291 : decode cX7_lays 291 = .ok (.aload_n 0, 1) := by decide +kernel
theorem dX7_lays_292 : decode cX7_lays 292 = .ok (.getfield 61, 3) := by decide +kernel
theorem dX7_lays_295 : decode cX7_lays 295 = .ok (.iload_n 3, 1) := by decide +kernel
theorem dX7_lays_296 : decode cX7_lays 296 = .ok (.iconst 1, 1) := by decide +kernel
theorem dX7_lays_297 : decode cX7_lays 297 = .ok (.iadd, 1) := by decide +kernel
theorem dX7_lays_298 : decode cX7_lays 298 = .ok (.iload 7, 2) := by decide +kernel
theorem dX7_lays_300 : decode cX7_lays 300 = .ok (.iconst 2, 1) := by decide +kernel
theorem dX7_lays_301 : decode cX7_lays 301 = .ok (.if_icmp .ne 8, 3) := by decide +kernel
theorem dX7_lays_304 : decode cX7_lays 304 = .ok (.iload 9, 2) := by decide +kernel
theorem dX7_lays_306 : decode cX7_lays 306 = .ok (.goto 9, 3) := by decide +kernel
theorem dX7_lays_309 : decode cX7_lays 309 = .ok (.aload_n 0, 1) := by decide +kernel
theorem dX7_lays_310 : decode cX7_lays 310 = .ok (.getfield 61, 3) := by decide +kernel
theorem dX7_lays_313 : decode cX7_lays 313 = .ok (.iload_n 3, 1) := by decide +kernel
theorem dX7_lays_314 : decode cX7_lays 314 = .ok (.iaload, 1) := by decide +kernel
theorem dX7_lays_315 : decode cX7_lays 315 = .ok (.iastore, 1) := by decide +kernel
theorem dX7_lays_316 : decode cX7_lays 316 = .ok (.iinc 3 1, 3) := by decide +kernel
theorem dX7_lays_319 : decode cX7_lays 319 = .ok (.goto (-291), 3) := by decide +kernel
theorem dX7_lays_322 : decode cX7_lays 322 = .ok (.return_, 1) := by decide +kernel
theorem dX7_isShown_0 : decode cX7_isShown 0 = .ok (.iload_n 1, 1) := by decide +kernel
theorem dX7_isShown_1 : decode cX7_isShown 1 = .ok (.invokestatic 91, 3) := by decide +kernel
theorem dX7_isShown_4 : decode cX7_isShown 4 = .ok (.ifCond .eq 19, 3) := by decide +kernel
theorem dX7_isShown_7 : decode cX7_isShown 7 = .ok (.iload_n 2, 1) := by decide +kernel
theorem dX7_isShown_8 : decode cX7_isShown 8 = .ok (.iconst (-1), 1) := by decide +kernel
theorem dX7_isShown_9 : decode cX7_isShown 9 = .ok (.if_icmp .eq 10, 3) := by decide +kernel
theorem dX7_isShown_12 : decode cX7_isShown 12 = .ok (.iload_n 2, 1) := by decide +kernel
theorem dX7_isShown_13 : decode cX7_isShown 13 = .ok (.invokestatic 75, 3) := by decide +kernel
theorem dX7_isShown_16 : decode cX7_isShown 16 = .ok (.ifCond .eq 7, 3) := by decide +kernel
theorem dX7_isShown_19 : decode cX7_isShown 19 = .ok (.iconst 1, 1) := by decide +kernel
theorem dX7_isShown_20 : decode cX7_isShown 20 = .ok (.goto 4, 3) := by decide +kernel
theorem dX7_isShown_23 : decode cX7_isShown 23 = .ok (.iconst 0, 1) := by decide +kernel
theorem dX7_isShown_24 : decode cX7_isShown 24 = .ok (.istore 4, 2) := by decide +kernel
theorem dX7_isShown_26 : decode cX7_isShown 26 = .ok (.iload 4, 2) := by decide +kernel
theorem dX7_isShown_28 : decode cX7_isShown 28 = .ok (.ifCond .eq 9, 3) := by decide +kernel
theorem dX7_isShown_31 : decode cX7_isShown 31 = .ok (.aload_n 0, 1) := by decide +kernel
theorem dX7_isShown_32 : decode cX7_isShown 32 = .ok (.iload_n 1, 1) := by decide +kernel
theorem dX7_isShown_33 : decode cX7_isShown 33 = .ok (.iload_n 2, 1) := by decide +kernel
theorem dX7_isShown_34 : decode cX7_isShown 34 = .ok (.invokevirtual 142, 3) := by decide +kernel
theorem dX7_isShown_37 : decode cX7_isShown 37 = .ok (.aload_n 0, 1) := by decide +kernel
theorem dX7_isShown_38 : decode cX7_isShown 38 = .ok (.iload_n 1, 1) := by decide +kernel
theorem dX7_isShown_39 : decode cX7_isShown 39 = .ok (.invokestatic 91, 3) := by decide +kernel
theorem dX7_isShown_42 : decode cX7_isShown 42 = .ok (.iload 4, 2) := by decide +kernel
theorem dX7_isShown_44 : decode cX7_isShown 44 = .ok (.iload 4, 2) := by decide +kernel
theorem dX7_isShown_46 : decode cX7_isShown 46 = .ok (.ifCond .eq 21, 3) := by decide +kernel
theorem dX7_isShown_49 : decode cX7_isShown 49 = .ok (.iload_n 3, 1) := by decide +kernel
theorem dX7_isShown_50 : decode cX7_isShown 50 = .ok (.iconst 0, 1) := by decide +kernel
theorem dX7_isShown_51 : decode cX7_isShown 51 = .ok (.aload_n 0, 1) := by decide +kernel
theorem dX7_isShown_52 : decode cX7_isShown 52 = .ok (.getfield 131, 3) := by decide +kernel
theorem dX7_isShown_55 : decode cX7_isShown 55 = .ok (.iconst 1, 1) := by decide +kernel
theorem dX7_isShown_56 : decode cX7_isShown 56 = .ok (.isub, 1) := by decide +kernel
theorem dX7_isShown_57 : decode cX7_isShown 57 = .ok (.invokestatic 68, 3) := by decide +kernel
theorem dX7_isShown_60 : decode cX7_isShown 60 = .ok (.ifCond .eq 7, 3) := by decide +kernel
theorem dX7_isShown_63 : decode cX7_isShown 63 = .ok (.iconst 1, 1) := by decide +kernel
theorem dX7_isShown_64 : decode cX7_isShown 64 = .ok (.goto 4, 3) := by decide +kernel
theorem dX7_isShown_67 : decode cX7_isShown 67 = .ok (.iconst 0, 1) := by decide +kernel
theorem dX7_isShown_68 : decode cX7_isShown 68 = .ok (.invokevirtual 83, 3) := by decide +kernel
theorem dX7_isShown_71 : decode cX7_isShown 71 = .ok (.ireturn, 1) := by decide +kernel
theorem dX7_items_0 : decode cX7_items 0 = .ok (.iload_n 1, 1) := by decide +kernel
theorem dX7_items_1 : decode cX7_items 1 = .ok (.invokestatic 91, 3) := by decide +kernel
theorem dX7_items_4 : decode cX7_items 4 = .ok (.ifCond .eq 19, 3) := by decide +kernel
theorem dX7_items_7 : decode cX7_items 7 = .ok (.iload_n 2, 1) := by decide +kernel
theorem dX7_items_8 : decode cX7_items 8 = .ok (.iconst (-1), 1) := by decide +kernel
theorem dX7_items_9 : decode cX7_items 9 = .ok (.if_icmp .eq 10, 3) := by decide +kernel
theorem dX7_items_12 : decode cX7_items 12 = .ok (.iload_n 2, 1) := by decide +kernel
theorem dX7_items_13 : decode cX7_items 13 = .ok (.invokestatic 75, 3) := by decide +kernel
theorem dX7_items_16 : decode cX7_items 16 = .ok (.ifCond .eq 7, 3) := by decide +kernel
theorem dX7_items_19 : decode cX7_items 19 = .ok (.iconst 1, 1) := by decide +kernel
theorem dX7_items_20 : decode cX7_items 20 = .ok (.goto 4, 3) := by decide +kernel
theorem dX7_items_23 : decode cX7_items 23 = .ok (.iconst 0, 1) := by decide +kernel
theorem dX7_items_24 : decode cX7_items 24 = .ok (.istore_n 3, 1) := by decide +kernel
theorem dX7_items_25 : decode cX7_items 25 = .ok (.aload_n 0, 1) := by decide +kernel
theorem dX7_items_26 : decode cX7_items 26 = .ok (.iload_n 1, 1) := by decide +kernel
theorem dX7_items_27 : decode cX7_items 27 = .ok (.invokestatic 91, 3) := by decide +kernel
theorem dX7_items_30 : decode cX7_items 30 = .ok (.iload_n 3, 1) := by decide +kernel
theorem dX7_items_31 : decode cX7_items 31 = .ok (.iconst 1, 1) := by decide +kernel
theorem dX7_items_32 : decode cX7_items 32 = .ok (.invokevirtual 83, 3) := by decide +kernel
theorem dX7_items_35 : decode cX7_items 35 = .ok (.ifCond .ne 5, 3) := by decide +kernel
theorem dX7_items_38 : decode cX7_items 38 = .ok (.iconst 0, 1) := by decide +kernel
theorem dX7_items_39 : decode cX7_items 39 = .ok (.ireturn, 1) := by decide +kernel
theorem dX7_items_40 : decode cX7_items 40 = .ok (.aload_n 0, 1) := by decide +kernel
theorem dX7_items_41 : decode cX7_items 41 = .ok (.iload_n 1, 1) := by decide +kernel
theorem dX7_items_42 : decode cX7_items 42 = .ok (.iload_n 2, 1) := by decide +kernel
theorem dX7_items_43 : decode cX7_items 43 = .ok (.invokevirtual 142, 3) := by decide +kernel
theorem dX7_items_46 : decode cX7_items 46 = .ok (.aload_n 0, 1) := by decide +kernel
theorem dX7_items_47 : decode cX7_items 47 = .ok (.getfield 131, 3) := by decide +kernel
theorem dX7_items_50 : decode cX7_items 50 = .ok (.ireturn, 1) := by decide +kernel
theorem dX7_sortAt_0 : decode cX7_sortAt 0 = .ok (.aload_n 0, 1) := by decide +kernel
theorem dX7_sortAt_1 : decode cX7_sortAt 1 = .ok (.iload_n 1, 1) := by decide +kernel
theorem dX7_sortAt_2 : decode cX7_sortAt 2 = .ok (.iload_n 2, 1) := by decide +kernel
theorem dX7_sortAt_3 : decode cX7_sortAt 3 = .ok (.iload_n 3, 1) := by decide +kernel
theorem dX7_sortAt_4 : decode cX7_sortAt 4 = .ok (.invokevirtual 145, 3) := by decide +kernel
theorem dX7_sortAt_7 : decode cX7_sortAt 7 = .ok (.ifCond .eq 12, 3) := by decide +kernel
theorem dX7_sortAt_10 : decode cX7_sortAt 10 = .ok (.aload_n 0, 1) := by decide +kernel
theorem dX7_sortAt_11 : decode cX7_sortAt 11 = .ok (.getfield 46, 3) := by decide +kernel
theorem dX7_sortAt_14 : decode cX7_sortAt 14 = .ok (.iload_n 3, 1) := by decide +kernel
theorem dX7_sortAt_15 : decode cX7_sortAt 15 = .ok (.iaload, 1) := by decide +kernel
theorem dX7_sortAt_16 : decode cX7_sortAt 16 = .ok (.goto 4, 3) := by decide +kernel
theorem dX7_sortAt_19 : decode cX7_sortAt 19 = .ok (.iconst 0, 1) := by decide +kernel
theorem dX7_sortAt_20 : decode cX7_sortAt 20 = .ok (.ireturn, 1) := by decide +kernel
theorem dX7_itemAt_0 : decode cX7_itemAt 0 = .ok (.aload_n 0, 1) := by decide +kernel
theorem dX7_itemAt_1 : decode cX7_itemAt 1 = .ok (.iload_n 1, 1) := by decide +kernel
theorem dX7_itemAt_2 : decode cX7_itemAt 2 = .ok (.iload_n 2, 1) := by decide +kernel
theorem dX7_itemAt_3 : decode cX7_itemAt 3 = .ok (.iload_n 3, 1) := by decide +kernel
theorem dX7_itemAt_4 : decode cX7_itemAt 4 = .ok (.invokevirtual 145, 3) := by decide +kernel
theorem dX7_itemAt_7 : decode cX7_itemAt 7 = .ok (.ifCond .eq 12, 3) := by decide +kernel
theorem dX7_itemAt_10 : decode cX7_itemAt 10 = .ok (.aload_n 0, 1) := by decide +kernel
theorem dX7_itemAt_11 : decode cX7_itemAt 11 = .ok (.getfield 49, 3) := by decide +kernel
theorem dX7_itemAt_14 : decode cX7_itemAt 14 = .ok (.iload_n 3, 1) := by decide +kernel
theorem dX7_itemAt_15 : decode cX7_itemAt 15 = .ok (.iaload, 1) := by decide +kernel
theorem dX7_itemAt_16 : decode cX7_itemAt 16 = .ok (.goto 4, 3) := by decide +kernel
theorem dX7_itemAt_19 : decode cX7_itemAt 19 = .ok (.iconst 0, 1) := by decide +kernel
theorem dX7_itemAt_20 : decode cX7_itemAt 20 = .ok (.ireturn, 1) := by decide +kernel
theorem dX7_itemAnew_0 : decode cX7_itemAnew 0 = .ok (.aload_n 0, 1) := by decide +kernel
theorem dX7_itemAnew_1 : decode cX7_itemAnew 1 = .ok (.iload_n 1, 1) := by decide +kernel
theorem dX7_itemAnew_2 : decode cX7_itemAnew 2 = .ok (.iload_n 2, 1) := by decide +kernel
theorem dX7_itemAnew_3 : decode cX7_itemAnew 3 = .ok (.iload_n 3, 1) := by decide +kernel
theorem dX7_itemAnew_4 : decode cX7_itemAnew 4 = .ok (.invokevirtual 148, 3) := by decide +kernel
theorem dX7_itemAnew_7 : decode cX7_itemAnew 7 = .ok (.ireturn, 1) := by decide +kernel
theorem dX7_sourceAt_0 : decode cX7_sourceAt 0 = .ok (.aload_n 0, 1) := by decide +kernel
theorem dX7_sourceAt_1 : decode cX7_sourceAt 1 = .ok (.iload_n 1, 1) := by decide +kernel
theorem dX7_sourceAt_2 : decode cX7_sourceAt 2 = .ok (.iload_n 2, 1) := by decide +kernel
theorem dX7_sourceAt_3 : decode cX7_sourceAt 3 = .ok (.iload_n 3, 1) := by decide +kernel
theorem dX7_sourceAt_4 : decode cX7_sourceAt 4 = .ok (.invokevirtual 145, 3) := by decide +kernel
theorem dX7_sourceAt_7 : decode cX7_sourceAt 7 = .ok (.ifCond .eq 12, 3) := by decide +kernel
theorem dX7_sourceAt_10 : decode cX7_sourceAt 10 = .ok (.aload_n 0, 1) := by decide +kernel
theorem dX7_sourceAt_11 : decode cX7_sourceAt 11 = .ok (.getfield 52, 3) := by decide +kernel
theorem dX7_sourceAt_14 : decode cX7_sourceAt 14 = .ok (.iload_n 3, 1) := by decide +kernel
theorem dX7_sourceAt_15 : decode cX7_sourceAt 15 = .ok (.iaload, 1) := by decide +kernel
theorem dX7_sourceAt_16 : decode cX7_sourceAt 16 = .ok (.goto 4, 3) := by decide +kernel
theorem dX7_sourceAt_19 : decode cX7_sourceAt 19 = .ok (.iconst 0, 1) := by decide +kernel
theorem dX7_sourceAt_20 : decode cX7_sourceAt 20 = .ok (.ireturn, 1) := by decide +kernel
theorem dX7_stands_0 : decode cX7_stands 0 = .ok (.iload_n 1, 1) := by decide +kernel
theorem dX7_stands_1 : decode cX7_stands 1 = .ok (.istore_n 2, 1) := by decide +kernel
theorem dX7_stands_2 : decode cX7_stands 2 = .ok (.iconst 0, 1) := by decide +kernel
theorem dX7_stands_3 : decode cX7_stands 3 = .ok (.istore_n 3, 1) := by decide +kernel
theorem dX7_stands_4 : decode cX7_stands 4 = .ok (.aload_n 0, 1) := by decide +kernel
theorem dX7_stands_5 : decode cX7_stands 5 = .ok (.getfield 16, 3) := by decide +kernel
theorem dX7_stands_8 : decode cX7_stands 8 = .ok (.aload_n 0, 1) := by decide +kernel
theorem dX7_stands_9 : decode cX7_stands 9 = .ok (.iload_n 2, 1) := by decide +kernel
theorem dX7_stands_10 : decode cX7_stands 10 = .ok (.invokevirtual 97, 3) := by decide +kernel
theorem dX7_stands_13 : decode cX7_stands 13 = .ok (.iaload, 1) := by decide +kernel
theorem dX7_stands_14 : decode cX7_stands 14 = .ok (.iconst 1, 1) := by decide +kernel
theorem dX7_stands_15 : decode cX7_stands 15 = .ok (.if_icmp .ne 58, 3) := by decide +kernel
theorem dX7_stands_18 : decode cX7_stands 18 = .ok (.aload_n 0, 1) := by decide +kernel
theorem dX7_stands_19 : decode cX7_stands 19 = .ok (.getfield 13, 3) := by decide +kernel
theorem dX7_stands_22 : decode cX7_stands 22 = .ok (.bipush 30, 2) := by decide +kernel
theorem dX7_stands_24 : decode cX7_stands 24 = .ok (.aload_n 0, 1) := by decide +kernel
theorem dX7_stands_25 : decode cX7_stands 25 = .ok (.iload_n 2, 1) := by decide +kernel
theorem dX7_stands_26 : decode cX7_stands 26 = .ok (.invokevirtual 97, 3) := by decide +kernel
theorem dX7_stands_29 : decode cX7_stands 29 = .ok (.imul, 1) := by decide +kernel
theorem dX7_stands_30 : decode cX7_stands 30 = .ok (.iaload, 1) := by decide +kernel
theorem dX7_stands_31 : decode cX7_stands 31 = .ok (.sipush 10000, 3) := by decide +kernel
theorem dX7_stands_34 : decode cX7_stands 34 = .ok (.idiv, 1) := by decide +kernel
theorem dX7_stands_35 : decode cX7_stands 35 = .ok (.bipush 8, 2) := by decide +kernel
theorem dX7_stands_37 : decode cX7_stands 37 = .ok (.if_icmp .ne 36, 3) := by decide +kernel
theorem dX7_stands_40 : decode cX7_stands 40 = .ok (.iload_n 3, 1) := by decide +kernel
theorem dX7_stands_41 : decode cX7_stands 41 = .ok (.iconst 3, 1) := by decide +kernel
theorem dX7_stands_42 : decode cX7_stands 42 = .ok (.if_icmp .ne 5, 3) := by decide +kernel
theorem dX7_stands_45 : decode cX7_stands 45 = .ok (.iconst (-1), 1) := by decide +kernel
theorem dX7_stands_46 : decode cX7_stands 46 = .ok (.ireturn, 1) := by decide +kernel
theorem dX7_stands_47 : decode cX7_stands 47 = .ok (.aload_n 0, 1) := by decide +kernel
theorem dX7_stands_48 : decode cX7_stands 48 = .ok (.getfield 13, 3) := by decide +kernel
theorem dX7_stands_51 : decode cX7_stands 51 = .ok (.bipush 30, 2) := by decide +kernel
theorem dX7_stands_53 : decode cX7_stands 53 = .ok (.aload_n 0, 1) := by decide +kernel
theorem dX7_stands_54 : decode cX7_stands 54 = .ok (.iload_n 2, 1) := by decide +kernel
theorem dX7_stands_55 : decode cX7_stands 55 = .ok (.invokevirtual 97, 3) := by decide +kernel
theorem dX7_stands_58 : decode cX7_stands 58 = .ok (.imul, 1) := by decide +kernel
theorem dX7_stands_59 : decode cX7_stands 59 = .ok (.iaload, 1) := by decide +kernel
theorem dX7_stands_60 : decode cX7_stands 60 = .ok (.bipush 100, 2) := by decide +kernel
theorem dX7_stands_62 : decode cX7_stands 62 = .ok (.idiv, 1) := by decide +kernel
theorem dX7_stands_63 : decode cX7_stands 63 = .ok (.bipush 100, 2) := by decide +kernel
theorem dX7_stands_65 : decode cX7_stands 65 = .ok (.irem, 1) := by decide +kernel
theorem dX7_stands_66 : decode cX7_stands 66 = .ok (.istore_n 2, 1) := by decide +kernel
theorem dX7_stands_67 : decode cX7_stands 67 = .ok (.iinc 3 1, 3) := by decide +kernel
theorem dX7_stands_70 : decode cX7_stands 70 = .ok (.goto (-66), 3) := by decide +kernel
theorem dX7_stands_73 : decode cX7_stands 73 = .ok (.iload_n 2, 1) := by decide +kernel
theorem dX7_stands_74 : decode cX7_stands 74 = .ok (.ireturn, 1) := by decide +kernel
theorem dX7_standsFor_0 : decode cX7_standsFor 0 = .ok (.aload_n 0, 1) := by decide +kernel
theorem dX7_standsFor_1 : decode cX7_standsFor 1 = .ok (.iload_n 1, 1) := by decide +kernel
theorem dX7_standsFor_2 : decode cX7_standsFor 2 = .ok (.invokestatic 91, 3) := by decide +kernel
theorem dX7_standsFor_5 : decode cX7_standsFor 5 = .ok (.iconst 1, 1) := by decide +kernel
theorem dX7_standsFor_6 : decode cX7_standsFor 6 = .ok (.iconst 1, 1) := by decide +kernel
theorem dX7_standsFor_7 : decode cX7_standsFor 7 = .ok (.invokevirtual 83, 3) := by decide +kernel
theorem dX7_standsFor_10 : decode cX7_standsFor 10 = .ok (.ifCond .eq 11, 3) := by decide +kernel
theorem dX7_standsFor_13 : decode cX7_standsFor 13 = .ok (.aload_n 0, 1) := by decide +kernel
theorem dX7_standsFor_14 : decode cX7_standsFor 14 = .ok (.iload_n 1, 1) := by decide +kernel
theorem dX7_standsFor_15 : decode cX7_standsFor 15 = .ok (.invokevirtual 151, 3) := by decide +kernel
theorem dX7_standsFor_18 : decode cX7_standsFor 18 = .ok (.goto 4, 3) := by decide +kernel
theorem dX7_standsFor_21 : decode cX7_standsFor 21 = .ok (.iconst 0, 1) := by decide +kernel
theorem dX7_standsFor_22 : decode cX7_standsFor 22 = .ok (.ireturn, 1) := by decide +kernel
theorem dX7_showsAnchor_0 : decode cX7_showsAnchor 0 = .ok (.iconst 0, 1) := by decide +kernel
theorem dX7_showsAnchor_1 : decode cX7_showsAnchor 1 = .ok (.istore_n 3, 1) := by decide +kernel
theorem dX7_showsAnchor_2 : decode cX7_showsAnchor 2 = .ok (.aload_n 0, 1) := by decide +kernel
theorem dX7_showsAnchor_3 : decode cX7_showsAnchor 3 = .ok (.iload_n 1, 1) := by decide +kernel
theorem dX7_showsAnchor_4 : decode cX7_showsAnchor 4 = .ok (.iconst (-1), 1) := by decide +kernel
theorem dX7_showsAnchor_5 : decode cX7_showsAnchor 5 = .ok (.invokevirtual 142, 3) := by decide +kernel
theorem dX7_showsAnchor_8 : decode cX7_showsAnchor 8 = .ok (.iconst 0, 1) := by decide +kernel
theorem dX7_showsAnchor_9 : decode cX7_showsAnchor 9 = .ok (.istore 4, 2) := by decide +kernel
theorem dX7_showsAnchor_11 : decode cX7_showsAnchor 11 = .ok (.iload 4, 2) := by decide +kernel
theorem dX7_showsAnchor_13 : decode cX7_showsAnchor 13 = .ok (.aload_n 0, 1) := by decide +kernel
theorem dX7_showsAnchor_14 : decode cX7_showsAnchor 14 = .ok (.getfield 131, 3) := by decide +kernel
theorem dX7_showsAnchor_17 : decode cX7_showsAnchor 17 = .ok (.if_icmp .ge 41, 3) := by decide +kernel
theorem dX7_showsAnchor_20 : decode cX7_showsAnchor 20 = .ok (.iload_n 3, 1) := by decide +kernel
theorem dX7_showsAnchor_21 : decode cX7_showsAnchor 21 = .ok (.ifCond .ne 25, 3) := by decide +kernel
theorem dX7_showsAnchor_24 : decode cX7_showsAnchor 24 = .ok (.aload_n 0, 1) := by decide +kernel
theorem dX7_showsAnchor_25 : decode cX7_showsAnchor 25 = .ok (.getfield 46, 3) := by decide +kernel
theorem dX7_showsAnchor_28 : decode cX7_showsAnchor 28 = .ok (.iload 4, 2) := by decide +kernel
theorem dX7_showsAnchor_30 : decode cX7_showsAnchor 30 = .ok (.iaload, 1) := by decide +kernel
theorem dX7_showsAnchor_31 : decode cX7_showsAnchor 31 = .ok (.iconst 1, 1) := by decide +kernel
theorem dX7_showsAnchor_32 : decode cX7_showsAnchor 32 = .ok (.if_icmp .ne 18, 3) := by decide +kernel
theorem dX7_showsAnchor_35 : decode cX7_showsAnchor 35 = .ok (.aload_n 0, 1) := by decide +kernel
theorem dX7_showsAnchor_36 : decode cX7_showsAnchor 36 = .ok (.getfield 49, 3) := by decide +kernel
theorem dX7_showsAnchor_39 : decode cX7_showsAnchor 39 = .ok (.iload 4, 2) := by decide +kernel
theorem dX7_showsAnchor_41 : decode cX7_showsAnchor 41 = .ok (.iaload, 1) := by decide +kernel
theorem dX7_showsAnchor_42 : decode cX7_showsAnchor 42 = .ok (.iload_n 2, 1) := by decide +kernel
theorem dX7_showsAnchor_43 : decode cX7_showsAnchor 43 = .ok (.if_icmp .ne 7, 3) := by decide +kernel
theorem dX7_showsAnchor_46 : decode cX7_showsAnchor 46 = .ok (.iconst 1, 1) := by decide +kernel
theorem dX7_showsAnchor_47 : decode cX7_showsAnchor 47 = .ok (.goto 4, 3) := by decide +kernel
theorem dX7_showsAnchor_50 : decode cX7_showsAnchor 50 = .ok (.iconst 0, 1) := by decide +kernel
theorem dX7_showsAnchor_51 : decode cX7_showsAnchor 51 = .ok (.istore_n 3, 1) := by decide +kernel
theorem dX7_showsAnchor_52 : decode cX7_showsAnchor 52 = .ok (.iinc 4 1, 3) := by decide +kernel
theorem dX7_showsAnchor_55 : decode cX7_showsAnchor 55 = .ok (.goto (-44), 3) := by decide +kernel
theorem dX7_showsAnchor_58 : decode cX7_showsAnchor 58 = .ok (.iload_n 3, 1) := by decide +kernel
theorem dX7_showsAnchor_59 : decode cX7_showsAnchor 59 = .ok (.ireturn, 1) := by decide +kernel
theorem dX7_isGood_0 : decode cX7_isGood 0 = .ok (.aload_n 0, 1) := by decide +kernel
theorem dX7_isGood_1 : decode cX7_isGood 1 = .ok (.iload_n 1, 1) := by decide +kernel
theorem dX7_isGood_2 : decode cX7_isGood 2 = .ok (.bipush 10, 2) := by decide +kernel
theorem dX7_isGood_4 : decode cX7_isGood 4 = .ok (.idiv, 1) := by decide +kernel
theorem dX7_isGood_5 : decode cX7_isGood 5 = .ok (.invokevirtual 151, 3) := by decide +kernel
theorem dX7_isGood_8 : decode cX7_isGood 8 = .ok (.istore_n 2, 1) := by decide +kernel
theorem dX7_isGood_9 : decode cX7_isGood 9 = .ok (.iload_n 2, 1) := by decide +kernel
theorem dX7_isGood_10 : decode cX7_isGood 10 = .ok (.iconst (-1), 1) := by decide +kernel
theorem dX7_isGood_11 : decode cX7_isGood 11 = .ok (.if_icmp .eq 19, 3) := by decide +kernel
theorem dX7_isGood_14 : decode cX7_isGood 14 = .ok (.aload_n 0, 1) := by decide +kernel
theorem dX7_isGood_15 : decode cX7_isGood 15 = .ok (.iload_n 2, 1) := by decide +kernel
theorem dX7_isGood_16 : decode cX7_isGood 16 = .ok (.iload_n 1, 1) := by decide +kernel
theorem dX7_isGood_17 : decode cX7_isGood 17 = .ok (.bipush 10, 2) := by decide +kernel
theorem dX7_isGood_19 : decode cX7_isGood 19 = .ok (.irem, 1) := by decide +kernel
theorem dX7_isGood_20 : decode cX7_isGood 20 = .ok (.invokevirtual 154, 3) := by decide +kernel
theorem dX7_isGood_23 : decode cX7_isGood 23 = .ok (.ifCond .eq 7, 3) := by decide +kernel
theorem dX7_isGood_26 : decode cX7_isGood 26 = .ok (.iconst 1, 1) := by decide +kernel
theorem dX7_isGood_27 : decode cX7_isGood 27 = .ok (.goto 4, 3) := by decide +kernel
theorem dX7_isGood_30 : decode cX7_isGood 30 = .ok (.iconst 0, 1) := by decide +kernel
theorem dX7_isGood_31 : decode cX7_isGood 31 = .ok (.ireturn, 1) := by decide +kernel
theorem dX7_linkAt_0 : decode cX7_linkAt 0 = .ok (.iconst 0, 1) := by decide +kernel
theorem dX7_linkAt_1 : decode cX7_linkAt 1 = .ok (.istore_n 3, 1) := by decide +kernel
theorem dX7_linkAt_2 : decode cX7_linkAt 2 = .ok (.aload_n 0, 1) := by decide +kernel
theorem dX7_linkAt_3 : decode cX7_linkAt 3 = .ok (.iload_n 1, 1) := by decide +kernel
theorem dX7_linkAt_4 : decode cX7_linkAt 4 = .ok (.iconst (-1), 1) := by decide +kernel
theorem dX7_linkAt_5 : decode cX7_linkAt 5 = .ok (.invokevirtual 142, 3) := by decide +kernel
theorem dX7_linkAt_8 : decode cX7_linkAt 8 = .ok (.iconst 0, 1) := by decide +kernel
theorem dX7_linkAt_9 : decode cX7_linkAt 9 = .ok (.istore 4, 2) := by decide +kernel
theorem dX7_linkAt_11 : decode cX7_linkAt 11 = .ok (.iload 4, 2) := by decide +kernel
theorem dX7_linkAt_13 : decode cX7_linkAt 13 = .ok (.aload_n 0, 1) := by decide +kernel
theorem dX7_linkAt_14 : decode cX7_linkAt 14 = .ok (.getfield 131, 3) := by decide +kernel
theorem dX7_linkAt_17 : decode cX7_linkAt 17 = .ok (.if_icmp .ge 36, 3) := by decide +kernel
theorem dX7_linkAt_20 : decode cX7_linkAt 20 = .ok (.aload_n 0, 1) := by decide +kernel
theorem dX7_linkAt_21 : decode cX7_linkAt 21 = .ok (.getfield 46, 3) := by decide +kernel
theorem dX7_linkAt_24 : decode cX7_linkAt 24 = .ok (.iload 4, 2) := by decide +kernel
theorem dX7_linkAt_26 : decode cX7_linkAt 26 = .ok (.iaload, 1) := by decide +kernel
theorem dX7_linkAt_27 : decode cX7_linkAt 27 = .ok (.iconst 2, 1) := by decide +kernel
theorem dX7_linkAt_28 : decode cX7_linkAt 28 = .ok (.if_icmp .ne 19, 3) := by decide +kernel
theorem dX7_linkAt_31 : decode cX7_linkAt 31 = .ok (.iload_n 3, 1) := by decide +kernel
theorem dX7_linkAt_32 : decode cX7_linkAt 32 = .ok (.iload_n 2, 1) := by decide +kernel
theorem dX7_linkAt_33 : decode cX7_linkAt 33 = .ok (.if_icmp .ne 11, 3) := by decide +kernel
theorem dX7_linkAt_36 : decode cX7_linkAt 36 = .ok (.aload_n 0, 1) := by decide +kernel
theorem dX7_linkAt_37 : decode cX7_linkAt 37 = .ok (.getfield 49, 3) := by decide +kernel
theorem dX7_linkAt_40 : decode cX7_linkAt 40 = .ok (.iload 4, 2) := by decide +kernel
theorem dX7_linkAt_42 : decode cX7_linkAt 42 = .ok (.iaload, 1) := by decide +kernel
theorem dX7_linkAt_43 : decode cX7_linkAt 43 = .ok (.ireturn, 1) := by decide +kernel
theorem dX7_linkAt_44 : decode cX7_linkAt 44 = .ok (.iinc 3 1, 3) := by decide +kernel
theorem dX7_linkAt_47 : decode cX7_linkAt 47 = .ok (.iinc 4 1, 3) := by decide +kernel
theorem dX7_linkAt_50 : decode cX7_linkAt 50 = .ok (.goto (-39), 3) := by decide +kernel
theorem dX7_linkAt_53 : decode cX7_linkAt 53 = .ok (.iconst (-1), 1) := by decide +kernel
theorem dX7_linkAt_54 : decode cX7_linkAt 54 = .ok (.ireturn, 1) := by decide +kernel
theorem dX7_links_0 : decode cX7_links 0 = .ok (.aload_n 0, 1) := by decide +kernel
theorem dX7_links_1 : decode cX7_links 1 = .ok (.iload_n 1, 1) := by decide +kernel
theorem dX7_links_2 : decode cX7_links 2 = .ok (.invokestatic 91, 3) := by decide +kernel
theorem dX7_links_5 : decode cX7_links 5 = .ok (.iconst 1, 1) := by decide +kernel
theorem dX7_links_6 : decode cX7_links 6 = .ok (.iconst 1, 1) := by decide +kernel
theorem dX7_links_7 : decode cX7_links 7 = .ok (.invokevirtual 83, 3) := by decide +kernel
theorem dX7_links_10 : decode cX7_links 10 = .ok (.ifCond .ne 5, 3) := by decide +kernel
theorem dX7_links_13 : decode cX7_links 13 = .ok (.iconst 0, 1) := by decide +kernel
theorem dX7_links_14 : decode cX7_links 14 = .ok (.ireturn, 1) := by decide +kernel
theorem dX7_links_15 : decode cX7_links 15 = .ok (.iconst 0, 1) := by decide +kernel
theorem dX7_links_16 : decode cX7_links 16 = .ok (.istore_n 2, 1) := by decide +kernel
theorem dX7_links_17 : decode cX7_links 17 = .ok (.aload_n 0, 1) := by decide +kernel
theorem dX7_links_18 : decode cX7_links 18 = .ok (.iload_n 1, 1) := by decide +kernel
theorem dX7_links_19 : decode cX7_links 19 = .ok (.iload_n 2, 1) := by decide +kernel
theorem dX7_links_20 : decode cX7_links 20 = .ok (.invokevirtual 157, 3) := by decide +kernel
theorem dX7_links_23 : decode cX7_links 23 = .ok (.iconst (-1), 1) := by decide +kernel
theorem dX7_links_24 : decode cX7_links 24 = .ok (.if_icmp .eq 9, 3) := by decide +kernel
theorem dX7_links_27 : decode cX7_links 27 = .ok (.iinc 2 1, 3) := by decide +kernel
theorem dX7_links_30 : decode cX7_links 30 = .ok (.goto (-13), 3) := by decide +kernel
theorem dX7_links_33 : decode cX7_links 33 = .ok (.iload_n 2, 1) := by decide +kernel
theorem dX7_links_34 : decode cX7_links 34 = .ok (.ireturn, 1) := by decide +kernel
theorem dX7_broken_0 : decode cX7_broken 0 = .ok (.aload_n 0, 1) := by decide +kernel
theorem dX7_broken_1 : decode cX7_broken 1 = .ok (.iload_n 1, 1) := by decide +kernel
theorem dX7_broken_2 : decode cX7_broken 2 = .ok (.invokestatic 91, 3) := by decide +kernel
theorem dX7_broken_5 : decode cX7_broken 5 = .ok (.iconst 1, 1) := by decide +kernel
theorem dX7_broken_6 : decode cX7_broken 6 = .ok (.iconst 1, 1) := by decide +kernel
theorem dX7_broken_7 : decode cX7_broken 7 = .ok (.invokevirtual 83, 3) := by decide +kernel
theorem dX7_broken_10 : decode cX7_broken 10 = .ok (.ifCond .ne 5, 3) := by decide +kernel
theorem dX7_broken_13 : decode cX7_broken 13 = .ok (.iconst 0, 1) := by decide +kernel
theorem dX7_broken_14 : decode cX7_broken 14 = .ok (.ireturn, 1) := by decide +kernel
theorem dX7_broken_15 : decode cX7_broken 15 = .ok (.iconst 0, 1) := by decide +kernel
theorem dX7_broken_16 : decode cX7_broken 16 = .ok (.istore_n 2, 1) := by decide +kernel
theorem dX7_broken_17 : decode cX7_broken 17 = .ok (.iconst 0, 1) := by decide +kernel
theorem dX7_broken_18 : decode cX7_broken 18 = .ok (.istore_n 3, 1) := by decide +kernel
theorem dX7_broken_19 : decode cX7_broken 19 = .ok (.aload_n 0, 1) := by decide +kernel
theorem dX7_broken_20 : decode cX7_broken 20 = .ok (.iload_n 1, 1) := by decide +kernel
theorem dX7_broken_21 : decode cX7_broken 21 = .ok (.iload_n 3, 1) := by decide +kernel
theorem dX7_broken_22 : decode cX7_broken 22 = .ok (.invokevirtual 157, 3) := by decide +kernel
theorem dX7_broken_25 : decode cX7_broken 25 = .ok (.iconst (-1), 1) := by decide +kernel
theorem dX7_broken_26 : decode cX7_broken 26 = .ok (.if_icmp .eq 30, 3) := by decide +kernel
theorem dX7_broken_29 : decode cX7_broken 29 = .ok (.iload_n 2, 1) := by decide +kernel
theorem dX7_broken_30 : decode cX7_broken 30 = .ok (.aload_n 0, 1) := by decide +kernel
theorem dX7_broken_31 : decode cX7_broken 31 = .ok (.aload_n 0, 1) := by decide +kernel
theorem dX7_broken_32 : decode cX7_broken 32 = .ok (.iload_n 1, 1) := by decide +kernel
theorem dX7_broken_33 : decode cX7_broken 33 = .ok (.iload_n 3, 1) := by decide +kernel
theorem dX7_broken_34 : decode cX7_broken 34 = .ok (.invokevirtual 157, 3) := by decide +kernel
theorem dX7_broken_37 : decode cX7_broken 37 = .ok (.invokevirtual 160, 3) := by decide +kernel
theorem dX7_broken_40 : decode cX7_broken 40 = .ok (.ifCond .eq 7, 3) := by decide +kernel
theorem dX7_broken_43 : decode cX7_broken 43 = .ok (.iconst 0, 1) := by decide +kernel
theorem dX7_broken_44 : decode cX7_broken 44 = .ok (.goto 4, 3) := by decide +kernel
theorem dX7_broken_47 : decode cX7_broken 47 = .ok (.iconst 1, 1) := by decide +kernel
theorem dX7_broken_48 : decode cX7_broken 48 = .ok (.iadd, 1) := by decide +kernel
theorem dX7_broken_49 : decode cX7_broken 49 = .ok (.istore_n 2, 1) := by decide +kernel
theorem dX7_broken_50 : decode cX7_broken 50 = .ok (.iinc 3 1, 3) := by decide +kernel
theorem dX7_broken_53 : decode cX7_broken 53 = .ok (.goto (-34), 3) := by decide +kernel
theorem dX7_broken_56 : decode cX7_broken 56 = .ok (.iload_n 2, 1) := by decide +kernel
theorem dX7_broken_57 : decode cX7_broken 57 = .ok (.ireturn, 1) := by decide +kernel
theorem dX7_firstBroken_0 : decode cX7_firstBroken 0 = .ok (.aload_n 0, 1) := by decide +kernel
theorem dX7_firstBroken_1 : decode cX7_firstBroken 1 = .ok (.iload_n 1, 1) := by decide +kernel
theorem dX7_firstBroken_2 : decode cX7_firstBroken 2 = .ok (.invokestatic 91, 3) := by decide +kernel
theorem dX7_firstBroken_5 : decode cX7_firstBroken 5 = .ok (.iconst 1, 1) := by decide +kernel
theorem dX7_firstBroken_6 : decode cX7_firstBroken 6 = .ok (.iconst 1, 1) := by decide +kernel
theorem dX7_firstBroken_7 : decode cX7_firstBroken 7 = .ok (.invokevirtual 83, 3) := by decide +kernel
theorem dX7_firstBroken_10 : decode cX7_firstBroken 10 = .ok (.ifCond .ne 5, 3) := by decide +kernel
theorem dX7_firstBroken_13 : decode cX7_firstBroken 13 = .ok (.iconst 0, 1) := by decide +kernel
theorem dX7_firstBroken_14 : decode cX7_firstBroken 14 = .ok (.ireturn, 1) := by decide +kernel
theorem dX7_firstBroken_15 : decode cX7_firstBroken 15 = .ok (.iconst 0, 1) := by decide +kernel
theorem dX7_firstBroken_16 : decode cX7_firstBroken 16 = .ok (.istore_n 2, 1) := by decide +kernel
theorem dX7_firstBroken_17 : decode cX7_firstBroken 17 = .ok (.aload_n 0, 1) := by decide +kernel
theorem dX7_firstBroken_18 : decode cX7_firstBroken 18 = .ok (.iload_n 1, 1) := by decide +kernel
theorem dX7_firstBroken_19 : decode cX7_firstBroken 19 = .ok (.iload_n 2, 1) := by decide +kernel
theorem dX7_firstBroken_20 : decode cX7_firstBroken 20 = .ok (.invokevirtual 157, 3) := by decide +kernel
theorem dX7_firstBroken_23 : decode cX7_firstBroken 23 = .ok (.iconst (-1), 1) := by decide +kernel
theorem dX7_firstBroken_24 : decode cX7_firstBroken 24 = .ok (.if_icmp .eq 22, 3) := by decide +kernel
theorem dX7_firstBroken_27 : decode cX7_firstBroken 27 = .ok (.aload_n 0, 1) := by decide +kernel
theorem dX7_firstBroken_28 : decode cX7_firstBroken 28 = .ok (.aload_n 0, 1) := by decide +kernel
theorem dX7_firstBroken_29 : decode cX7_firstBroken 29 = .ok (.iload_n 1, 1) := by decide +kernel
theorem dX7_firstBroken_30 : decode cX7_firstBroken 30 = .ok (.iload_n 2, 1) := by decide +kernel
theorem dX7_firstBroken_31 : decode cX7_firstBroken 31 = .ok (.invokevirtual 157, 3) := by decide +kernel
theorem dX7_firstBroken_34 : decode cX7_firstBroken 34 = .ok (.invokevirtual 160, 3) := by decide +kernel
theorem dX7_firstBroken_37 : decode cX7_firstBroken 37 = .ok (.ifCond .eq 9, 3) := by decide +kernel
theorem dX7_firstBroken_40 : decode cX7_firstBroken 40 = .ok (.iinc 2 1, 3) := by decide +kernel
theorem dX7_firstBroken_43 : decode cX7_firstBroken 43 = .ok (.goto (-26), 3) := by decide +kernel
theorem dX7_firstBroken_46 : decode cX7_firstBroken 46 = .ok (.aload_n 0, 1) := by decide +kernel
theorem dX7_firstBroken_47 : decode cX7_firstBroken 47 = .ok (.iload_n 1, 1) := by decide +kernel
theorem dX7_firstBroken_48 : decode cX7_firstBroken 48 = .ok (.iload_n 2, 1) := by decide +kernel
theorem dX7_firstBroken_49 : decode cX7_firstBroken 49 = .ok (.invokevirtual 157, 3) := by decide +kernel
theorem dX7_firstBroken_52 : decode cX7_firstBroken 52 = .ok (.ireturn, 1) := by decide +kernel
theorem dX7_linkedFrom_0 : decode cX7_linkedFrom 0 = .ok (.aload_n 0, 1) := by decide +kernel
theorem dX7_linkedFrom_1 : decode cX7_linkedFrom 1 = .ok (.iload_n 1, 1) := by decide +kernel
theorem dX7_linkedFrom_2 : decode cX7_linkedFrom 2 = .ok (.invokestatic 91, 3) := by decide +kernel
theorem dX7_linkedFrom_5 : decode cX7_linkedFrom 5 = .ok (.iconst 1, 1) := by decide +kernel
theorem dX7_linkedFrom_6 : decode cX7_linkedFrom 6 = .ok (.iconst 1, 1) := by decide +kernel
theorem dX7_linkedFrom_7 : decode cX7_linkedFrom 7 = .ok (.invokevirtual 83, 3) := by decide +kernel
theorem dX7_linkedFrom_10 : decode cX7_linkedFrom 10 = .ok (.ifCond .ne 5, 3) := by decide +kernel
theorem dX7_linkedFrom_13 : decode cX7_linkedFrom 13 = .ok (.iconst 0, 1) := by decide +kernel
theorem dX7_linkedFrom_14 : decode cX7_linkedFrom 14 = .ok (.ireturn, 1) := by decide +kernel
theorem dX7_linkedFrom_15 : decode cX7_linkedFrom 15 = .ok (.iconst 0, 1) := by decide +kernel
theorem dX7_linkedFrom_16 : decode cX7_linkedFrom 16 = .ok (.istore_n 2, 1) := by decide +kernel
theorem dX7_linkedFrom_17 : decode cX7_linkedFrom 17 = .ok (.iconst 0, 1) := by decide +kernel
theorem dX7_linkedFrom_18 : decode cX7_linkedFrom 18 = .ok (.istore_n 3, 1) := by decide +kernel
theorem dX7_linkedFrom_19 : decode cX7_linkedFrom 19 = .ok (.iload_n 3, 1) := by decide +kernel
theorem dX7_linkedFrom_20 : decode cX7_linkedFrom 20 = .ok (.bipush 12, 2) := by decide +kernel
theorem dX7_linkedFrom_22 : decode cX7_linkedFrom 22 = .ok (.if_icmp .ge 91, 3) := by decide +kernel
theorem dX7_linkedFrom_25 : decode cX7_linkedFrom 25 = .ok (.iconst 0, 1) := by decide +kernel
theorem dX7_linkedFrom_26 : decode cX7_linkedFrom 26 = .ok (.istore 4, 2) := by decide +kernel
theorem dX7_linkedFrom_28 : decode cX7_linkedFrom 28 = .ok (.aload_n 0, 1) := by decide +kernel
theorem dX7_linkedFrom_29 : decode cX7_linkedFrom 29 = .ok (.iload_n 3, 1) := by decide +kernel
theorem dX7_linkedFrom_30 : decode cX7_linkedFrom 30 = .ok (.iload 4, 2) := by decide +kernel
theorem dX7_linkedFrom_32 : decode cX7_linkedFrom 32 = .ok (.invokevirtual 157, 3) := by decide +kernel
theorem dX7_linkedFrom_35 : decode cX7_linkedFrom 35 = .ok (.iconst (-1), 1) := by decide +kernel
theorem dX7_linkedFrom_36 : decode cX7_linkedFrom 36 = .ok (.if_icmp .eq 71, 3) := by decide +kernel
theorem dX7_linkedFrom_39 : decode cX7_linkedFrom 39 = .ok (.aload_n 0, 1) := by decide +kernel
theorem dX7_linkedFrom_40 : decode cX7_linkedFrom 40 = .ok (.iload_n 3, 1) := by decide +kernel
theorem dX7_linkedFrom_41 : decode cX7_linkedFrom 41 = .ok (.iload 4, 2) := by decide +kernel
theorem dX7_linkedFrom_43 : decode cX7_linkedFrom 43 = .ok (.invokevirtual 157, 3) := by decide +kernel
theorem dX7_linkedFrom_46 : decode cX7_linkedFrom 46 = .ok (.istore 5, 2) := by decide +kernel
theorem dX7_linkedFrom_48 : decode cX7_linkedFrom 48 = .ok (.iload 5, 2) := by decide +kernel
theorem dX7_linkedFrom_50 : decode cX7_linkedFrom 50 = .ok (.bipush 10, 2) := by decide +kernel
theorem dX7_linkedFrom_52 : decode cX7_linkedFrom 52 = .ok (.idiv, 1) := by decide +kernel
theorem dX7_linkedFrom_53 : decode cX7_linkedFrom 53 = .ok (.iload_n 1, 1) := by decide +kernel
theorem dX7_linkedFrom_54 : decode cX7_linkedFrom 54 = .ok (.if_icmp .eq 16, 3) := by decide +kernel
theorem dX7_linkedFrom_57 : decode cX7_linkedFrom 57 = .ok (.aload_n 0, 1) := by decide +kernel
theorem dX7_linkedFrom_58 : decode cX7_linkedFrom 58 = .ok (.iload 5, 2) := by decide +kernel
theorem dX7_linkedFrom_60 : decode cX7_linkedFrom 60 = .ok (.bipush 10, 2) := by decide +kernel
theorem dX7_linkedFrom_62 : decode cX7_linkedFrom 62 = .ok (.idiv, 1) := by decide +kernel
theorem dX7_linkedFrom_63 : decode cX7_linkedFrom 63 = .ok (.invokevirtual 151, 3) := by decide +kernel
theorem dX7_linkedFrom_66 : decode cX7_linkedFrom 66 = .ok (.iload_n 1, 1) := by decide +kernel
theorem dX7_linkedFrom_67 : decode cX7_linkedFrom 67 = .ok (.if_icmp .ne 7, 3) := by decide +kernel
theorem dX7_linkedFrom_70 : decode cX7_linkedFrom 70 = .ok (.iconst 1, 1) := by decide +kernel
theorem dX7_linkedFrom_71 : decode cX7_linkedFrom 71 = .ok (.goto 4, 3) := by decide +kernel
theorem dX7_linkedFrom_74 : decode cX7_linkedFrom 74 = .ok (.iconst 0, 1) := by decide +kernel
theorem dX7_linkedFrom_75 : decode cX7_linkedFrom 75 = .ok (.istore 6, 2) := by decide +kernel
theorem dX7_linkedFrom_77 : decode cX7_linkedFrom 77 = .ok (.iload_n 2, 1) := by decide +kernel
theorem dX7_linkedFrom_78 : decode cX7_linkedFrom 78 = .ok (.iload 6, 2) := by decide +kernel
theorem dX7_linkedFrom_80 : decode cX7_linkedFrom 80 = .ok (.ifCond .eq 18, 3) := by decide +kernel
theorem dX7_linkedFrom_83 : decode cX7_linkedFrom 83 = .ok (.aload_n 0, 1) := by decide +kernel
theorem dX7_linkedFrom_84 : decode cX7_linkedFrom 84 = .ok (.iload 5, 2) := by decide +kernel
theorem dX7_linkedFrom_86 : decode cX7_linkedFrom 86 = .ok (.invokevirtual 160, 3) := by decide +kernel
theorem dX7_linkedFrom_89 : decode cX7_linkedFrom 89 = .ok (.ifCond .eq 9, 3) := by decide +kernel
theorem dX7_linkedFrom_92 : decode cX7_linkedFrom 92 = .ok (.iconst 1, 1) := by decide +kernel
theorem dX7_linkedFrom_93 : decode cX7_linkedFrom 93 = .ok (.iload_n 3, 1) := by decide +kernel
theorem dX7_linkedFrom_94 : decode cX7_linkedFrom 94 = .ok (.ishl, 1) := by decide +kernel
theorem dX7_linkedFrom_95 : decode cX7_linkedFrom 95 = .ok (.goto 4, 3) := by decide +kernel
theorem dX7_linkedFrom_98 : decode cX7_linkedFrom 98 = .ok (.iconst 0, 1) := by decide +kernel
theorem dX7_linkedFrom_99 : decode cX7_linkedFrom 99 = .ok (.ior, 1) := by decide +kernel
theorem dX7_linkedFrom_100 : decode cX7_linkedFrom 100 = .ok (.istore_n 2, 1) := by decide +kernel
theorem dX7_linkedFrom_101 : decode cX7_linkedFrom 101 = .ok (.iinc 4 1, 3) := by decide +kernel
theorem dX7_linkedFrom_104 : decode cX7_linkedFrom 104 = .ok (.goto (-76), 3) := by decide +kernel
theorem dX7_linkedFrom_107 : decode cX7_linkedFrom 107 = .ok (.iinc 3 1, 3) := by decide +kernel
theorem dX7_linkedFrom_110 : decode cX7_linkedFrom 110 = .ok (.goto (-91), 3) := by decide +kernel
theorem dX7_linkedFrom_113 : decode cX7_linkedFrom 113 = .ok (.iload_n 2, 1) := by decide +kernel
theorem dX7_linkedFrom_114 : decode cX7_linkedFrom 114 = .ok (.ireturn, 1) := by decide +kernel
theorem dX7_breachesOf_0 : decode cX7_breachesOf 0 = .ok (.iconst 0, 1) := by decide +kernel
theorem dX7_breachesOf_1 : decode cX7_breachesOf 1 = .ok (.istore_n 2, 1) := by decide +kernel
theorem dX7_breachesOf_2 : decode cX7_breachesOf 2 = .ok (.aload_n 0, 1) := by decide +kernel
theorem dX7_breachesOf_3 : decode cX7_breachesOf 3 = .ok (.iload_n 1, 1) := by decide +kernel
theorem dX7_breachesOf_4 : decode cX7_breachesOf 4 = .ok (.iconst (-1), 1) := by decide +kernel
theorem dX7_breachesOf_5 : decode cX7_breachesOf 5 = .ok (.invokevirtual 142, 3) := by decide +kernel
theorem dX7_breachesOf_8 : decode cX7_breachesOf 8 = .ok (.iconst 0, 1) := by decide +kernel
theorem dX7_breachesOf_9 : decode cX7_breachesOf 9 = .ok (.istore_n 3, 1) := by decide +kernel
theorem dX7_breachesOf_10 : decode cX7_breachesOf 10 = .ok (.iload_n 3, 1) := by decide +kernel
theorem dX7_breachesOf_11 : decode cX7_breachesOf 11 = .ok (.aload_n 0, 1) := by decide +kernel
theorem dX7_breachesOf_12 : decode cX7_breachesOf 12 = .ok (.getfield 131, 3) := by decide +kernel
theorem dX7_breachesOf_15 : decode cX7_breachesOf 15 = .ok (.if_icmp .ge 41, 3) := by decide +kernel
theorem dX7_breachesOf_18 : decode cX7_breachesOf 18 = .ok (.iload_n 2, 1) := by decide +kernel
theorem dX7_breachesOf_19 : decode cX7_breachesOf 19 = .ok (.aload_n 0, 1) := by decide +kernel
theorem dX7_breachesOf_20 : decode cX7_breachesOf 20 = .ok (.getfield 19, 3) := by decide +kernel
theorem dX7_breachesOf_23 : decode cX7_breachesOf 23 = .ok (.aload_n 0, 1) := by decide +kernel
theorem dX7_breachesOf_24 : decode cX7_breachesOf 24 = .ok (.aload_n 0, 1) := by decide +kernel
theorem dX7_breachesOf_25 : decode cX7_breachesOf 25 = .ok (.getfield 52, 3) := by decide +kernel
theorem dX7_breachesOf_28 : decode cX7_breachesOf 28 = .ok (.iload_n 3, 1) := by decide +kernel
theorem dX7_breachesOf_29 : decode cX7_breachesOf 29 = .ok (.iaload, 1) := by decide +kernel
theorem dX7_breachesOf_30 : decode cX7_breachesOf 30 = .ok (.invokevirtual 97, 3) := by decide +kernel
theorem dX7_breachesOf_33 : decode cX7_breachesOf 33 = .ok (.iaload, 1) := by decide +kernel
theorem dX7_breachesOf_34 : decode cX7_breachesOf 34 = .ok (.aload_n 0, 1) := by decide +kernel
theorem dX7_breachesOf_35 : decode cX7_breachesOf 35 = .ok (.getfield 25, 3) := by decide +kernel
theorem dX7_breachesOf_38 : decode cX7_breachesOf 38 = .ok (.iload_n 1, 1) := by decide +kernel
theorem dX7_breachesOf_39 : decode cX7_breachesOf 39 = .ok (.iaload, 1) := by decide +kernel
theorem dX7_breachesOf_40 : decode cX7_breachesOf 40 = .ok (.if_icmp .ge 7, 3) := by decide +kernel
theorem dX7_breachesOf_43 : decode cX7_breachesOf 43 = .ok (.iconst 1, 1) := by decide +kernel
theorem dX7_breachesOf_44 : decode cX7_breachesOf 44 = .ok (.goto 4, 3) := by decide +kernel
theorem dX7_breachesOf_47 : decode cX7_breachesOf 47 = .ok (.iconst 0, 1) := by decide +kernel
theorem dX7_breachesOf_48 : decode cX7_breachesOf 48 = .ok (.iadd, 1) := by decide +kernel
theorem dX7_breachesOf_49 : decode cX7_breachesOf 49 = .ok (.istore_n 2, 1) := by decide +kernel
theorem dX7_breachesOf_50 : decode cX7_breachesOf 50 = .ok (.iinc 3 1, 3) := by decide +kernel
theorem dX7_breachesOf_53 : decode cX7_breachesOf 53 = .ok (.goto (-43), 3) := by decide +kernel
theorem dX7_breachesOf_56 : decode cX7_breachesOf 56 = .ok (.iload_n 2, 1) := by decide +kernel
theorem dX7_breachesOf_57 : decode cX7_breachesOf 57 = .ok (.ireturn, 1) := by decide +kernel
theorem dX7_breaches_0 : decode cX7_breaches 0 = .ok (.aload_n 0, 1) := by decide +kernel
theorem dX7_breaches_1 : decode cX7_breaches 1 = .ok (.iload_n 1, 1) := by decide +kernel
theorem dX7_breaches_2 : decode cX7_breaches 2 = .ok (.invokestatic 91, 3) := by decide +kernel
theorem dX7_breaches_5 : decode cX7_breaches 5 = .ok (.iconst 1, 1) := by decide +kernel
theorem dX7_breaches_6 : decode cX7_breaches 6 = .ok (.iconst 1, 1) := by decide +kernel
theorem dX7_breaches_7 : decode cX7_breaches 7 = .ok (.invokevirtual 83, 3) := by decide +kernel
theorem dX7_breaches_10 : decode cX7_breaches 10 = .ok (.ifCond .eq 11, 3) := by decide +kernel
theorem dX7_breaches_13 : decode cX7_breaches 13 = .ok (.aload_n 0, 1) := by decide +kernel
theorem dX7_breaches_14 : decode cX7_breaches 14 = .ok (.iload_n 1, 1) := by decide +kernel
theorem dX7_breaches_15 : decode cX7_breaches 15 = .ok (.invokevirtual 163, 3) := by decide +kernel
theorem dX7_breaches_18 : decode cX7_breaches 18 = .ok (.goto 4, 3) := by decide +kernel
theorem dX7_breaches_21 : decode cX7_breaches 21 = .ok (.iconst 0, 1) := by decide +kernel
theorem dX7_breaches_22 : decode cX7_breaches 22 = .ok (.ireturn, 1) := by decide +kernel
theorem dX7_breached_0 : decode cX7_breached 0 = .ok (.aload_n 0, 1) := by decide +kernel
theorem dX7_breached_1 : decode cX7_breached 1 = .ok (.iconst 0, 1) := by decide +kernel
theorem dX7_breached_2 : decode cX7_breached 2 = .ok (.putfield 64, 3) := by decide +kernel
theorem dX7_breached_5 : decode cX7_breached 5 = .ok (.iconst 0, 1) := by decide +kernel
theorem dX7_breached_6 : decode cX7_breached 6 = .ok (.istore_n 1, 1) := by decide +kernel
theorem dX7_breached_7 : decode cX7_breached 7 = .ok (.iconst 0, 1) := by decide +kernel
theorem dX7_breached_8 : decode cX7_breached 8 = .ok (.istore_n 2, 1) := by decide +kernel
theorem dX7_breached_9 : decode cX7_breached 9 = .ok (.iload_n 2, 1) := by decide +kernel
theorem dX7_breached_10 : decode cX7_breached 10 = .ok (.bipush 12, 2) := by decide +kernel
theorem dX7_breached_12 : decode cX7_breached 12 = .ok (.if_icmp .ge 25, 3) := by decide +kernel
theorem dX7_breached_15 : decode cX7_breached 15 = .ok (.iload_n 1, 1) := by decide +kernel
theorem dX7_breached_16 : decode cX7_breached 16 = .ok (.aload_n 0, 1) := by decide +kernel
theorem dX7_breached_17 : decode cX7_breached 17 = .ok (.iload_n 2, 1) := by decide +kernel
theorem dX7_breached_18 : decode cX7_breached 18 = .ok (.invokevirtual 163, 3) := by decide +kernel
theorem dX7_breached_21 : decode cX7_breached 21 = .ok (.ifCond .le 7, 3) := by decide +kernel
theorem dX7_breached_24 : decode cX7_breached 24 = .ok (.iconst 1, 1) := by decide +kernel
theorem dX7_breached_25 : decode cX7_breached 25 = .ok (.goto 4, 3) := by decide +kernel
theorem dX7_breached_28 : decode cX7_breached 28 = .ok (.iconst 0, 1) := by decide +kernel
theorem dX7_breached_29 : decode cX7_breached 29 = .ok (.iadd, 1) := by decide +kernel
theorem dX7_breached_30 : decode cX7_breached 30 = .ok (.istore_n 1, 1) := by decide +kernel
theorem dX7_breached_31 : decode cX7_breached 31 = .ok (.iinc 2 1, 3) := by decide +kernel
theorem dX7_breached_34 : decode cX7_breached 34 = .ok (.goto (-25), 3) := by decide +kernel
theorem dX7_breached_37 : decode cX7_breached 37 = .ok (.iload_n 1, 1) := by decide +kernel
theorem dX7_breached_38 : decode cX7_breached 38 = .ok (.ireturn, 1) := by decide +kernel
