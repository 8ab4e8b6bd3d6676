theorem dX6_init_0 : decode cX6_init 0 = .ok (.aload_n 0, 1) := by decide +kernel
theorem dX6_init_1 : decode cX6_init 1 = .ok (.invokespecial 3, 3) := by decide +kernel
theorem dX6_init_4 : decode cX6_init 4 = .ok (.aload_n 0, 1) := by decide +kernel
theorem dX6_init_5 : decode cX6_init 5 = .ok (.new 9, 3) := by decide +kernel
theorem dX6_init_8 : decode cX6_init 8 = .ok (.dup, 1) := by decide +kernel
theorem dX6_init_9 : decode cX6_init 9 = .ok (.invokespecial 11, 3) := by decide +kernel
theorem dX6_init_12 : decode cX6_init 12 = .ok (.putfield 12, 3) := by decide +kernel
theorem dX6_init_15 : decode cX6_init 15 = .ok (.aload_n 0, 1) := by decide +kernel
theorem dX6_init_16 : decode cX6_init 16 = .ok (.bipush 6, 2) := by decide +kernel
theorem dX6_init_18 : decode cX6_init 18 = .ok (.newarray .int, 2) := by decide +kernel
theorem dX6_init_20 : decode cX6_init 20 = .ok (.putfield 16, 3) := by decide +kernel
theorem dX6_init_23 : decode cX6_init 23 = .ok (.aload_n 0, 1) := by decide +kernel
theorem dX6_init_24 : decode cX6_init 24 = .ok (.new 20, 3) := by decide +kernel
theorem dX6_init_27 : decode cX6_init 27 = .ok (.dup, 1) := by decide +kernel
theorem dX6_init_28 : decode cX6_init 28 = .ok (.invokespecial 22, 3) := by decide +kernel
theorem dX6_init_31 : decode cX6_init 31 = .ok (.putfield 23, 3) := by decide +kernel
theorem dX6_init_34 : decode cX6_init 34 = .ok (.aload_n 0, 1) := by decide +kernel
theorem dX6_init_35 : decode cX6_init 35 = .ok (.new 20, 3) := by decide +kernel
theorem dX6_init_38 : decode cX6_init 38 = .ok (.dup, 1) := by decide +kernel
theorem dX6_init_39 : decode cX6_init 39 = .ok (.invokespecial 22, 3) := by decide +kernel
theorem dX6_init_42 : decode cX6_init 42 = .ok (.putfield 27, 3) := by decide +kernel
theorem dX6_init_45 : decode cX6_init 45 = .ok (.aload_n 0, 1) := by decide +kernel
theorem dX6_init_46 : decode cX6_init 46 = .ok (.bipush 12, 2) := by decide +kernel
theorem dX6_init_48 : decode cX6_init 48 = .ok (.anewarray 30, 3) := by decide +kernel
theorem dX6_init_51 : decode cX6_init 51 = .ok (.putfield 32, 3) := by decide +kernel
theorem dX6_init_54 : decode cX6_init 54 = .ok (.iconst 0, 1) := by decide +kernel
theorem dX6_init_55 : decode cX6_init 55 = .ok (.istore_n 1, 1) := by decide +kernel
theorem dX6_init_56 : decode cX6_init 56 = .ok (.iload_n 1, 1) := by decide +kernel
theorem dX6_init_57 : decode cX6_init 57 = .ok (.aload_n 0, 1) := by decide +kernel
theorem dX6_init_58 : decode cX6_init 58 = .ok (.getfield 32, 3) := by decide +kernel
theorem dX6_init_61 : decode cX6_init 61 = .ok (.arraylength, 1) := by decide +kernel
theorem dX6_init_62 : decode cX6_init 62 = .ok (.if_icmp .ge 22, 3) := by decide +kernel
theorem dX6_init_65 : decode cX6_init 65 = .ok (.aload_n 0, 1) := by decide +kernel
theorem dX6_init_66 : decode cX6_init 66 = .ok (.getfield 32, 3) := by decide +kernel
theorem dX6_init_69 : decode cX6_init 69 = .ok (.iload_n 1, 1) := by decide +kernel
theorem dX6_init_70 : decode cX6_init 70 = .ok (.new 30, 3) := by decide +kernel
theorem dX6_init_73 : decode cX6_init 73 = .ok (.dup, 1) := by decide +kernel
theorem dX6_init_74 : decode cX6_init 74 = .ok (.invokespecial 36, 3) := by decide +kernel
theorem dX6_init_77 : decode cX6_init 77 = .ok (.aastore, 1) := by decide +kernel
theorem dX6_init_78 : decode cX6_init 78 = .ok (.iinc 1 1, 3) := by decide +kernel
theorem dX6_init_81 : decode cX6_init 81 = .ok (.goto (-25), 3) := by decide +kernel
theorem dX6_init_84 : decode cX6_init 84 = .ok (.return_, 1) := by decide +kernel
theorem dX6_letter_0 : decode cX6_letter 0 = .ok (.iload_n 1, 1) := by decide +kernel
theorem dX6_letter_1 : decode cX6_letter 1 = .ok (.bipush 26, 2) := by decide +kernel
theorem dX6_letter_3 : decode cX6_letter 3 = .ok (.invokestatic 37, 3) := by decide +kernel
theorem dX6_letter_6 : decode cX6_letter 6 = .ok (.aload_n 0, 1) := by decide +kernel
theorem dX6_letter_7 : decode cX6_letter 7 = .ok (.iconst 0, 1) := by decide +kernel
theorem dX6_letter_8 : decode cX6_letter 8 = .ok (.iconst (-1), 1) := by decide +kernel
theorem dX6_letter_9 : decode cX6_letter 9 = .ok (.iload_n 1, 1) := by decide +kernel
theorem dX6_letter_10 : decode cX6_letter 10 = .ok (.invokevirtual 41, 3) := by decide +kernel
theorem dX6_letter_13 : decode cX6_letter 13 = .ok (.ireturn, 1) := by decide +kernel
theorem dX6_argument_0 : decode cX6_argument 0 = .ok (.aload_n 0, 1) := by decide +kernel
theorem dX6_argument_1 : decode cX6_argument 1 = .ok (.iconst 3, 1) := by decide +kernel
theorem dX6_argument_2 : decode cX6_argument 2 = .ok (.iconst (-1), 1) := by decide +kernel
theorem dX6_argument_3 : decode cX6_argument 3 = .ok (.iconst (-1), 1) := by decide +kernel
theorem dX6_argument_4 : decode cX6_argument 4 = .ok (.invokevirtual 41, 3) := by decide +kernel
theorem dX6_argument_7 : decode cX6_argument 7 = .ok (.ireturn, 1) := by decide +kernel
theorem dX6_call_0 : decode cX6_call 0 = .ok (.iload_n 1, 1) := by decide +kernel
theorem dX6_call_1 : decode cX6_call 1 = .ok (.invokestatic 45, 3) := by decide +kernel
theorem dX6_call_4 : decode cX6_call 4 = .ok (.iload_n 2, 1) := by decide +kernel
theorem dX6_call_5 : decode cX6_call 5 = .ok (.invokestatic 49, 3) := by decide +kernel
theorem dX6_call_8 : decode cX6_call 8 = .ok (.aload_n 0, 1) := by decide +kernel
theorem dX6_call_9 : decode cX6_call 9 = .ok (.iconst 4, 1) := by decide +kernel
theorem dX6_call_10 : decode cX6_call 10 = .ok (.iload_n 1, 1) := by decide +kernel
theorem dX6_call_11 : decode cX6_call 11 = .ok (.iload_n 2, 1) := by decide +kernel
theorem dX6_call_12 : decode cX6_call 12 = .ok (.invokevirtual 41, 3) := by decide +kernel
theorem dX6_call_15 : decode cX6_call 15 = .ok (.ireturn, 1) := by decide +kernel
theorem dX6_callOn_0 : decode cX6_callOn 0 = .ok (.iload_n 1, 1) := by decide +kernel
theorem dX6_callOn_1 : decode cX6_callOn 1 = .ok (.invokestatic 45, 3) := by decide +kernel
theorem dX6_callOn_4 : decode cX6_callOn 4 = .ok (.aload_n 0, 1) := by decide +kernel
theorem dX6_callOn_5 : decode cX6_callOn 5 = .ok (.iconst 5, 1) := by decide +kernel
theorem dX6_callOn_6 : decode cX6_callOn 6 = .ok (.iload_n 1, 1) := by decide +kernel
theorem dX6_callOn_7 : decode cX6_callOn 7 = .ok (.iconst (-1), 1) := by decide +kernel
theorem dX6_callOn_8 : decode cX6_callOn 8 = .ok (.invokevirtual 41, 3) := by decide +kernel
theorem dX6_callOn_11 : decode cX6_callOn 11 = .ok (.ireturn, 1) := by decide +kernel
theorem dX6_when_0 : decode cX6_when 0 = .ok (.iload_n 1, 1) := by decide +kernel
theorem dX6_when_1 : decode cX6_when 1 = .ok (.bipush 26, 2) := by decide +kernel
theorem dX6_when_3 : decode cX6_when 3 = .ok (.invokestatic 37, 3) := by decide +kernel
theorem dX6_when_6 : decode cX6_when 6 = .ok (.aload_n 0, 1) := by decide +kernel
theorem dX6_when_7 : decode cX6_when 7 = .ok (.bipush 6, 2) := by decide +kernel
theorem dX6_when_9 : decode cX6_when 9 = .ok (.iconst (-1), 1) := by decide +kernel
theorem dX6_when_10 : decode cX6_when 10 = .ok (.iload_n 1, 1) := by decide +kernel
theorem dX6_when_11 : decode cX6_when 11 = .ok (.invokevirtual 41, 3) := by decide +kernel
theorem dX6_when_14 : decode cX6_when 14 = .ok (.ireturn, 1) := by decide +kernel
theorem dX6_end_0 : decode cX6_end 0 = .ok (.aload_n 0, 1) := by decide +kernel
theorem dX6_end_1 : decode cX6_end 1 = .ok (.getfield 12, 3) := by decide +kernel
theorem dX6_end_4 : decode cX6_end 4 = .ok (.invokevirtual 52, 3) := by decide +kernel
theorem dX6_end_7 : decode cX6_end 7 = .ok (.ifCond .ne 13, 3) := by decide +kernel
theorem dX6_end_10 : decode cX6_end 10 = .ok (.new 56, 3) := by decide +kernel
theorem dX6_end_13 : decode cX6_end 13 = .ok (.dup, 1) := by decide +kernel
theorem dX6_end_14 : decode cX6_end 14 = .ok (.ldc 58, 2) := by decide +kernel
theorem dX6_end_16 : decode cX6_end 16 = .ok (.invokespecial 60, 3) := by decide +kernel
theorem dX6_end_19 : decode cX6_end 19 = .ok (.athrow, 1) := by decide +kernel
theorem dX6_end_20 : decode cX6_end 20 = .ok (.aload_n 0, 1) := by decide +kernel
theorem dX6_end_21 : decode cX6_end 21 = .ok (.bipush 7, 2) := by decide +kernel
theorem dX6_end_23 : decode cX6_end 23 = .ok (.iconst (-1), 1) := by decide +kernel
theorem dX6_end_24 : decode cX6_end 24 = .ok (.iconst (-1), 1) := by decide +kernel
theorem dX6_end_25 : decode cX6_end 25 = .ok (.invokevirtual 41, 3) := by decide +kernel
theorem dX6_end_28 : decode cX6_end 28 = .ok (.ireturn, 1) := by decide +kernel
theorem dX6_anchor_0 : decode cX6_anchor 0 = .ok (.iload_n 1, 1) := by decide +kernel
theorem dX6_anchor_1 : decode cX6_anchor 1 = .ok (.bipush 10, 2) := by decide +kernel
theorem dX6_anchor_3 : decode cX6_anchor 3 = .ok (.invokestatic 37, 3) := by decide +kernel
theorem dX6_anchor_6 : decode cX6_anchor 6 = .ok (.aload_n 0, 1) := by decide +kernel
theorem dX6_anchor_7 : decode cX6_anchor 7 = .ok (.iconst 1, 1) := by decide +kernel
theorem dX6_anchor_8 : decode cX6_anchor 8 = .ok (.iconst (-1), 1) := by decide +kernel
theorem dX6_anchor_9 : decode cX6_anchor 9 = .ok (.iload_n 1, 1) := by decide +kernel
theorem dX6_anchor_10 : decode cX6_anchor 10 = .ok (.invokevirtual 41, 3) := by decide +kernel
theorem dX6_anchor_13 : decode cX6_anchor 13 = .ok (.ireturn, 1) := by decide +kernel
theorem dX6_link_0 : decode cX6_link 0 = .ok (.iload_n 1, 1) := by decide +kernel
theorem dX6_link_1 : decode cX6_link 1 = .ok (.invokestatic 45, 3) := by decide +kernel
theorem dX6_link_4 : decode cX6_link 4 = .ok (.iload_n 2, 1) := by decide +kernel
theorem dX6_link_5 : decode cX6_link 5 = .ok (.bipush 10, 2) := by decide +kernel
theorem dX6_link_7 : decode cX6_link 7 = .ok (.invokestatic 37, 3) := by decide +kernel
theorem dX6_link_10 : decode cX6_link 10 = .ok (.aload_n 0, 1) := by decide +kernel
theorem dX6_link_11 : decode cX6_link 11 = .ok (.iconst 2, 1) := by decide +kernel
theorem dX6_link_12 : decode cX6_link 12 = .ok (.iload_n 1, 1) := by decide +kernel
theorem dX6_link_13 : decode cX6_link 13 = .ok (.iload_n 2, 1) := by decide +kernel
theorem dX6_link_14 : decode cX6_link 14 = .ok (.invokevirtual 41, 3) := by decide +kernel
theorem dX6_link_17 : decode cX6_link 17 = .ok (.ireturn, 1) := by decide +kernel
theorem dX6_redirect_0 : decode cX6_redirect 0 = .ok (.iload_n 1, 1) := by decide +kernel
theorem dX6_redirect_1 : decode cX6_redirect 1 = .ok (.invokestatic 45, 3) := by decide +kernel
theorem dX6_redirect_4 : decode cX6_redirect 4 = .ok (.aload_n 0, 1) := by decide +kernel
theorem dX6_redirect_5 : decode cX6_redirect 5 = .ok (.bipush 8, 2) := by decide +kernel
theorem dX6_redirect_7 : decode cX6_redirect 7 = .ok (.iload_n 1, 1) := by decide +kernel
theorem dX6_redirect_8 : decode cX6_redirect 8 = .ok (.iconst (-1), 1) := by decide +kernel
theorem dX6_redirect_9 : decode cX6_redirect 9 = .ok (.invokevirtual 41, 3) := by decide +kernel
theorem dX6_redirect_12 : decode cX6_redirect 12 = .ok (.ireturn, 1) := by decide +kernel
theorem dX6_edit_0 : decode cX6_edit 0 = .ok (.aload_n 0, 1) := by decide +kernel
theorem dX6_edit_1 : decode cX6_edit 1 = .ok (.iload_n 1, 1) := by decide +kernel
theorem dX6_edit_2 : decode cX6_edit 2 = .ok (.invokevirtual 63, 3) := by decide +kernel
theorem dX6_edit_5 : decode cX6_edit 5 = .ok (.istore_n 3, 1) := by decide +kernel
theorem dX6_edit_6 : decode cX6_edit 6 = .ok (.aload_n 0, 1) := by decide +kernel
theorem dX6_edit_7 : decode cX6_edit 7 = .ok (.iload_n 2, 1) := by decide +kernel
theorem dX6_edit_8 : decode cX6_edit 8 = .ok (.invokevirtual 67, 3) := by decide +kernel
theorem dX6_edit_11 : decode cX6_edit 11 = .ok (.astore 4, 2) := by decide +kernel
theorem dX6_edit_13 : decode cX6_edit 13 = .ok (.aload_n 0, 1) := by decide +kernel
theorem dX6_edit_14 : decode cX6_edit 14 = .ok (.getfield 12, 3) := by decide +kernel
theorem dX6_edit_17 : decode cX6_edit 17 = .ok (.invokevirtual 52, 3) := by decide +kernel
theorem dX6_edit_20 : decode cX6_edit 20 = .ok (.ifCond .eq 13, 3) := by decide +kernel
theorem dX6_edit_23 : decode cX6_edit 23 = .ok (.new 56, 3) := by decide +kernel
theorem dX6_edit_26 : decode cX6_edit 26 = .ok (.dup, 1) := by decide +kernel
theorem dX6_edit_27 : decode cX6_edit 27 = .ok (.ldc 71, 2) := by decide +kernel
theorem dX6_edit_29 : decode cX6_edit 29 = .ok (.invokespecial 60, 3) := by decide +kernel
theorem dX6_edit_32 : decode cX6_edit 32 = .ok (.athrow, 1) := by decide +kernel
theorem dX6_edit_33 : decode cX6_edit 33 = .ok (.aload 4, 2) := by decide +kernel
theorem dX6_edit_35 : decode cX6_edit 35 = .ok (.getfield 73, 3) := by decide +kernel
theorem dX6_edit_38 : decode cX6_edit 38 = .ok (.getfield 77, 3) := by decide +kernel
theorem dX6_edit_41 : decode cX6_edit 41 = .ok (.bipush 20, 2) := by decide +kernel
theorem dX6_edit_43 : decode cX6_edit 43 = .ok (.if_icmp .lt 13, 3) := by decide +kernel
theorem dX6_edit_46 : decode cX6_edit 46 = .ok (.new 56, 3) := by decide +kernel
theorem dX6_edit_49 : decode cX6_edit 49 = .ok (.dup, 1) := by decide +kernel
theorem dX6_edit_50 : decode cX6_edit 50 = .ok (.ldc 83, 2) := by decide +kernel
theorem dX6_edit_52 : decode cX6_edit 52 = .ok (.invokespecial 60, 3) := by decide +kernel
theorem dX6_edit_55 : decode cX6_edit 55 = .ok (.athrow, 1) := by decide +kernel
theorem dX6_edit_56 : decode cX6_edit 56 = .ok (.iload_n 3, 1) := by decide +kernel
theorem dX6_edit_57 : decode cX6_edit 57 = .ok (.aload_n 0, 1) := by decide +kernel
theorem dX6_edit_58 : decode cX6_edit 58 = .ok (.iload_n 2, 1) := by decide +kernel
theorem dX6_edit_59 : decode cX6_edit 59 = .ok (.invokevirtual 85, 3) := by decide +kernel
theorem dX6_edit_62 : decode cX6_edit 62 = .ok (.if_icmp .ge 8, 3) := by decide +kernel
theorem dX6_edit_65 : decode cX6_edit 65 = .ok (.bipush (-2), 2) := by decide +kernel
theorem dX6_edit_67 : decode cX6_edit 67 = .ok (.goto 12, 3) := by decide +kernel
theorem dX6_edit_70 : decode cX6_edit 70 = .ok (.aload_n 0, 1) := by decide +kernel
theorem dX6_edit_71 : decode cX6_edit 71 = .ok (.iload_n 2, 1) := by decide +kernel
theorem dX6_edit_72 : decode cX6_edit 72 = .ok (.aload_n 0, 1) := by decide +kernel
theorem dX6_edit_73 : decode cX6_edit 73 = .ok (.getfield 12, 3) := by decide +kernel
theorem dX6_edit_76 : decode cX6_edit 76 = .ok (.invokevirtual 88, 3) := by decide +kernel
theorem dX6_edit_79 : decode cX6_edit 79 = .ok (.istore 5, 2) := by decide +kernel
theorem dX6_edit_81 : decode cX6_edit 81 = .ok (.iload 5, 2) := by decide +kernel
theorem dX6_edit_83 : decode cX6_edit 83 = .ok (.iconst (-1), 1) := by decide +kernel
theorem dX6_edit_84 : decode cX6_edit 84 = .ok (.if_icmp .ne 55, 3) := by decide +kernel
theorem dX6_edit_87 : decode cX6_edit 87 = .ok (.new 9, 3) := by decide +kernel
theorem dX6_edit_90 : decode cX6_edit 90 = .ok (.dup, 1) := by decide +kernel
theorem dX6_edit_91 : decode cX6_edit 91 = .ok (.invokespecial 11, 3) := by decide +kernel
theorem dX6_edit_94 : decode cX6_edit 94 = .ok (.astore 6, 2) := by decide +kernel
theorem dX6_edit_96 : decode cX6_edit 96 = .ok (.aload 6, 2) := by decide +kernel
theorem dX6_edit_98 : decode cX6_edit 98 = .ok (.aload_n 0, 1) := by decide +kernel
theorem dX6_edit_99 : decode cX6_edit 99 = .ok (.getfield 12, 3) := by decide +kernel
theorem dX6_edit_102 : decode cX6_edit 102 = .ok (.invokevirtual 92, 3) := by decide +kernel
theorem dX6_edit_105 : decode cX6_edit 105 = .ok (.aload 4, 2) := by decide +kernel
theorem dX6_edit_107 : decode cX6_edit 107 = .ok (.new 78, 3) := by decide +kernel
theorem dX6_edit_110 : decode cX6_edit 110 = .ok (.dup, 1) := by decide +kernel
theorem dX6_edit_111 : decode cX6_edit 111 = .ok (.aload 4, 2) := by decide +kernel
theorem dX6_edit_113 : decode cX6_edit 113 = .ok (.getfield 73, 3) := by decide +kernel
theorem dX6_edit_116 : decode cX6_edit 116 = .ok (.aload 4, 2) := by decide +kernel
theorem dX6_edit_118 : decode cX6_edit 118 = .ok (.getfield 73, 3) := by decide +kernel
theorem dX6_edit_121 : decode cX6_edit 121 = .ok (.getfield 77, 3) := by decide +kernel
theorem dX6_edit_124 : decode cX6_edit 124 = .ok (.iconst 1, 1) := by decide +kernel
theorem dX6_edit_125 : decode cX6_edit 125 = .ok (.iadd, 1) := by decide +kernel
theorem dX6_edit_126 : decode cX6_edit 126 = .ok (.aload 6, 2) := by decide +kernel
theorem dX6_edit_128 : decode cX6_edit 128 = .ok (.iload_n 3, 1) := by decide +kernel
theorem dX6_edit_129 : decode cX6_edit 129 = .ok (.invokespecial 96, 3) := by decide +kernel
theorem dX6_edit_132 : decode cX6_edit 132 = .ok (.putfield 73, 3) := by decide +kernel
theorem dX6_edit_135 : decode cX6_edit 135 = .ok (.aload_n 0, 1) := by decide +kernel
theorem dX6_edit_136 : decode cX6_edit 136 = .ok (.invokevirtual 99, 3) := by decide +kernel
theorem dX6_edit_139 : decode cX6_edit 139 = .ok (.aload_n 0, 1) := by decide +kernel
theorem dX6_edit_140 : decode cX6_edit 140 = .ok (.getfield 12, 3) := by decide +kernel
theorem dX6_edit_143 : decode cX6_edit 143 = .ok (.invokevirtual 102, 3) := by decide +kernel
theorem dX6_edit_146 : decode cX6_edit 146 = .ok (.iload 5, 2) := by decide +kernel
theorem dX6_edit_148 : decode cX6_edit 148 = .ok (.iconst (-1), 1) := by decide +kernel
theorem dX6_edit_149 : decode cX6_edit 149 = .ok (.if_icmp .ne 14, 3) := by decide +kernel
theorem dX6_edit_152 : decode cX6_edit 152 = .ok (.aload 4, 2) := by decide +kernel
theorem dX6_edit_154 : decode cX6_edit 154 = .ok (.getfield 73, 3) := by decide +kernel
theorem dX6_edit_157 : decode cX6_edit 157 = .ok (.getfield 77, 3) := by decide +kernel
theorem dX6_edit_160 : decode cX6_edit 160 = .ok (.goto 5, 3) := by decide +kernel
theorem dX6_edit_163 : decode cX6_edit 163 = .ok (.iload 5, 2) := by decide +kernel
theorem dX6_edit_165 : decode cX6_edit 165 = .ok (.ireturn, 1) := by decide +kernel
theorem dX6_undo_0 : decode cX6_undo 0 = .ok (.aload_n 0, 1) := by decide +kernel
theorem dX6_undo_1 : decode cX6_undo 1 = .ok (.iload_n 1, 1) := by decide +kernel
theorem dX6_undo_2 : decode cX6_undo 2 = .ok (.invokevirtual 63, 3) := by decide +kernel
theorem dX6_undo_5 : decode cX6_undo 5 = .ok (.istore_n 3, 1) := by decide +kernel
theorem dX6_undo_6 : decode cX6_undo 6 = .ok (.aload_n 0, 1) := by decide +kernel
theorem dX6_undo_7 : decode cX6_undo 7 = .ok (.iload_n 2, 1) := by decide +kernel
theorem dX6_undo_8 : decode cX6_undo 8 = .ok (.invokevirtual 67, 3) := by decide +kernel
theorem dX6_undo_11 : decode cX6_undo 11 = .ok (.astore 4, 2) := by decide +kernel
theorem dX6_undo_13 : decode cX6_undo 13 = .ok (.aload 4, 2) := by decide +kernel
theorem dX6_undo_15 : decode cX6_undo 15 = .ok (.getfield 73, 3) := by decide +kernel
theorem dX6_undo_18 : decode cX6_undo 18 = .ok (.getfield 105, 3) := by decide +kernel
theorem dX6_undo_21 : decode cX6_undo 21 = .ok (.astore 5, 2) := by decide +kernel
theorem dX6_undo_23 : decode cX6_undo 23 = .ok (.aload 5, 2) := by decide +kernel
theorem dX6_undo_25 : decode cX6_undo 25 = .ok (.ifnonnull 13, 3) := by decide +kernel
theorem dX6_undo_28 : decode cX6_undo 28 = .ok (.new 56, 3) := by decide +kernel
theorem dX6_undo_31 : decode cX6_undo 31 = .ok (.dup, 1) := by decide +kernel
theorem dX6_undo_32 : decode cX6_undo 32 = .ok (.ldc 108, 2) := by decide +kernel
theorem dX6_undo_34 : decode cX6_undo 34 = .ok (.invokespecial 60, 3) := by decide +kernel
theorem dX6_undo_37 : decode cX6_undo 37 = .ok (.athrow, 1) := by decide +kernel
theorem dX6_undo_38 : decode cX6_undo 38 = .ok (.aload_n 0, 1) := by decide +kernel
theorem dX6_undo_39 : decode cX6_undo 39 = .ok (.iload_n 2, 1) := by decide +kernel
theorem dX6_undo_40 : decode cX6_undo 40 = .ok (.invokevirtual 85, 3) := by decide +kernel
theorem dX6_undo_43 : decode cX6_undo 43 = .ok (.istore 6, 2) := by decide +kernel
theorem dX6_undo_45 : decode cX6_undo 45 = .ok (.iload_n 3, 1) := by decide +kernel
theorem dX6_undo_46 : decode cX6_undo 46 = .ok (.iload 6, 2) := by decide +kernel
theorem dX6_undo_48 : decode cX6_undo 48 = .ok (.if_icmp .lt 13, 3) := by decide +kernel
theorem dX6_undo_51 : decode cX6_undo 51 = .ok (.aload 5, 2) := by decide +kernel
theorem dX6_undo_53 : decode cX6_undo 53 = .ok (.getfield 110, 3) := by decide +kernel
theorem dX6_undo_56 : decode cX6_undo 56 = .ok (.iload 6, 2) := by decide +kernel
theorem dX6_undo_58 : decode cX6_undo 58 = .ok (.if_icmp .ge 8, 3) := by decide +kernel
theorem dX6_undo_61 : decode cX6_undo 61 = .ok (.bipush (-2), 2) := by decide +kernel
theorem dX6_undo_63 : decode cX6_undo 63 = .ok (.goto 13, 3) := by decide +kernel
theorem dX6_undo_66 : decode cX6_undo 66 = .ok (.aload_n 0, 1) := by decide +kernel
theorem dX6_undo_67 : decode cX6_undo 67 = .ok (.iload_n 2, 1) := by decide +kernel
theorem dX6_undo_68 : decode cX6_undo 68 = .ok (.aload 5, 2) := by decide +kernel
theorem dX6_undo_70 : decode cX6_undo 70 = .ok (.getfield 113, 3) := by decide +kernel
theorem dX6_undo_73 : decode cX6_undo 73 = .ok (.invokevirtual 88, 3) := by decide +kernel
theorem dX6_undo_76 : decode cX6_undo 76 = .ok (.istore 7, 2) := by decide +kernel
theorem dX6_undo_78 : decode cX6_undo 78 = .ok (.iload 7, 2) := by decide +kernel
theorem dX6_undo_80 : decode cX6_undo 80 = .ok (.iconst (-1), 1) := by decide +kernel
theorem dX6_undo_81 : decode cX6_undo 81 = .ok (.if_icmp .eq 6, 3) := by decide +kernel
theorem dX6_undo_84 : decode cX6_undo 84 = .ok (.iload 7, 2) := by decide +kernel
theorem dX6_undo_86 : decode cX6_undo 86 = .ok (.ireturn, 1) := by decide +kernel
theorem dX6_undo_87 : decode cX6_undo 87 = .ok (.aload 4, 2) := by decide +kernel
theorem dX6_undo_89 : decode cX6_undo 89 = .ok (.aload 5, 2) := by decide +kernel
theorem dX6_undo_91 : decode cX6_undo 91 = .ok (.putfield 73, 3) := by decide +kernel
theorem dX6_undo_94 : decode cX6_undo 94 = .ok (.aload_n 0, 1) := by decide +kernel
theorem dX6_undo_95 : decode cX6_undo 95 = .ok (.invokevirtual 99, 3) := by decide +kernel
theorem dX6_undo_98 : decode cX6_undo 98 = .ok (.aload 5, 2) := by decide +kernel
theorem dX6_undo_100 : decode cX6_undo 100 = .ok (.getfield 77, 3) := by decide +kernel
theorem dX6_undo_103 : decode cX6_undo 103 = .ok (.ireturn, 1) := by decide +kernel
theorem dX6_approve_0 : decode cX6_approve 0 = .ok (.aload_n 0, 1) := by decide +kernel
theorem dX6_approve_1 : decode cX6_approve 1 = .ok (.iload_n 1, 1) := by decide +kernel
theorem dX6_approve_2 : decode cX6_approve 2 = .ok (.invokevirtual 63, 3) := by decide +kernel
theorem dX6_approve_5 : decode cX6_approve 5 = .ok (.istore_n 3, 1) := by decide +kernel
theorem dX6_approve_6 : decode cX6_approve 6 = .ok (.aload_n 0, 1) := by decide +kernel
theorem dX6_approve_7 : decode cX6_approve 7 = .ok (.iload_n 2, 1) := by decide +kernel
theorem dX6_approve_8 : decode cX6_approve 8 = .ok (.invokevirtual 67, 3) := by decide +kernel
theorem dX6_approve_11 : decode cX6_approve 11 = .ok (.getfield 73, 3) := by decide +kernel
theorem dX6_approve_14 : decode cX6_approve 14 = .ok (.astore 4, 2) := by decide +kernel
theorem dX6_approve_16 : decode cX6_approve 16 = .ok (.iload_n 3, 1) := by decide +kernel
theorem dX6_approve_17 : decode cX6_approve 17 = .ok (.aload_n 0, 1) := by decide +kernel
theorem dX6_approve_18 : decode cX6_approve 18 = .ok (.iload_n 2, 1) := by decide +kernel
theorem dX6_approve_19 : decode cX6_approve 19 = .ok (.invokevirtual 85, 3) := by decide +kernel
theorem dX6_approve_22 : decode cX6_approve 22 = .ok (.if_icmp .lt 12, 3) := by decide +kernel
theorem dX6_approve_25 : decode cX6_approve 25 = .ok (.iload_n 3, 1) := by decide +kernel
theorem dX6_approve_26 : decode cX6_approve 26 = .ok (.aload 4, 2) := by decide +kernel
theorem dX6_approve_28 : decode cX6_approve 28 = .ok (.getfield 110, 3) := by decide +kernel
theorem dX6_approve_31 : decode cX6_approve 31 = .ok (.if_icmp .gt 5, 3) := by decide +kernel
theorem dX6_approve_34 : decode cX6_approve 34 = .ok (.iconst 0, 1) := by decide +kernel
theorem dX6_approve_35 : decode cX6_approve 35 = .ok (.ireturn, 1) := by decide +kernel
theorem dX6_approve_36 : decode cX6_approve 36 = .ok (.aload 4, 2) := by decide +kernel
theorem dX6_approve_38 : decode cX6_approve 38 = .ok (.iload_n 3, 1) := by decide +kernel
theorem dX6_approve_39 : decode cX6_approve 39 = .ok (.putfield 110, 3) := by decide +kernel
theorem dX6_approve_42 : decode cX6_approve 42 = .ok (.iconst 1, 1) := by decide +kernel
theorem dX6_approve_43 : decode cX6_approve 43 = .ok (.ireturn, 1) := by decide +kernel
theorem dX6_lock_0 : decode cX6_lock 0 = .ok (.aload_n 0, 1) := by decide +kernel
theorem dX6_lock_1 : decode cX6_lock 1 = .ok (.iload_n 1, 1) := by decide +kernel
theorem dX6_lock_2 : decode cX6_lock 2 = .ok (.invokevirtual 63, 3) := by decide +kernel
theorem dX6_lock_5 : decode cX6_lock 5 = .ok (.istore 4, 2) := by decide +kernel
theorem dX6_lock_7 : decode cX6_lock 7 = .ok (.aload_n 0, 1) := by decide +kernel
theorem dX6_lock_8 : decode cX6_lock 8 = .ok (.iload_n 2, 1) := by decide +kernel
theorem dX6_lock_9 : decode cX6_lock 9 = .ok (.invokevirtual 67, 3) := by decide +kernel
theorem dX6_lock_12 : decode cX6_lock 12 = .ok (.astore 5, 2) := by decide +kernel
theorem dX6_lock_14 : decode cX6_lock 14 = .ok (.iload_n 3, 1) := by decide +kernel
theorem dX6_lock_15 : decode cX6_lock 15 = .ok (.iconst 4, 1) := by decide +kernel
theorem dX6_lock_16 : decode cX6_lock 16 = .ok (.invokestatic 37, 3) := by decide +kernel
theorem dX6_lock_19 : decode cX6_lock 19 = .ok (.aload 5, 2) := by decide +kernel
theorem dX6_lock_21 : decode cX6_lock 21 = .ok (.getfield 116, 3) := by decide +kernel
theorem dX6_lock_24 : decode cX6_lock 24 = .ok (.istore 6, 2) := by decide +kernel
theorem dX6_lock_26 : decode cX6_lock 26 = .ok (.iload 4, 2) := by decide +kernel
theorem dX6_lock_28 : decode cX6_lock 28 = .ok (.iload 6, 2) := by decide +kernel
theorem dX6_lock_30 : decode cX6_lock 30 = .ok (.if_icmp .lt 9, 3) := by decide +kernel
theorem dX6_lock_33 : decode cX6_lock 33 = .ok (.iload 4, 2) := by decide +kernel
theorem dX6_lock_35 : decode cX6_lock 35 = .ok (.iload_n 3, 1) := by decide +kernel
theorem dX6_lock_36 : decode cX6_lock 36 = .ok (.if_icmp .ge 6, 3) := by decide +kernel
theorem dX6_lock_39 : decode cX6_lock 39 = .ok (.bipush (-2), 2) := by decide +kernel
theorem dX6_lock_41 : decode cX6_lock 41 = .ok (.ireturn, 1) := by decide +kernel
theorem dX6_lock_42 : decode cX6_lock 42 = .ok (.aload 5, 2) := by decide +kernel
theorem dX6_lock_44 : decode cX6_lock 44 = .ok (.iload_n 3, 1) := by decide +kernel
theorem dX6_lock_45 : decode cX6_lock 45 = .ok (.putfield 116, 3) := by decide +kernel
theorem dX6_lock_48 : decode cX6_lock 48 = .ok (.iload 6, 2) := by decide +kernel
theorem dX6_lock_50 : decode cX6_lock 50 = .ok (.ireturn, 1) := by decide +kernel
theorem dX6_setRank_0 : decode cX6_setRank 0 = .ok (.aload_n 0, 1) := by decide +kernel
theorem dX6_setRank_1 : decode cX6_setRank 1 = .ok (.iload_n 1, 1) := by decide +kernel
theorem dX6_setRank_2 : decode cX6_setRank 2 = .ok (.invokevirtual 63, 3) := by decide +kernel
theorem dX6_setRank_5 : decode cX6_setRank 5 = .ok (.istore_n 3, 1) := by decide +kernel
theorem dX6_setRank_6 : decode cX6_setRank 6 = .ok (.iload_n 2, 1) := by decide +kernel
theorem dX6_setRank_7 : decode cX6_setRank 7 = .ok (.iconst 4, 1) := by decide +kernel
theorem dX6_setRank_8 : decode cX6_setRank 8 = .ok (.invokestatic 37, 3) := by decide +kernel
theorem dX6_setRank_11 : decode cX6_setRank 11 = .ok (.aload_n 0, 1) := by decide +kernel
theorem dX6_setRank_12 : decode cX6_setRank 12 = .ok (.getfield 16, 3) := by decide +kernel
theorem dX6_setRank_15 : decode cX6_setRank 15 = .ok (.iload_n 1, 1) := by decide +kernel
theorem dX6_setRank_16 : decode cX6_setRank 16 = .ok (.iload_n 2, 1) := by decide +kernel
theorem dX6_setRank_17 : decode cX6_setRank 17 = .ok (.invokestatic 119, 3) := by decide +kernel
theorem dX6_setRank_20 : decode cX6_setRank 20 = .ok (.iload_n 3, 1) := by decide +kernel
theorem dX6_setRank_21 : decode cX6_setRank 21 = .ok (.ireturn, 1) := by decide +kernel
theorem dX6_version_0 : decode cX6_version 0 = .ok (.aload_n 0, 1) := by decide +kernel
theorem dX6_version_1 : decode cX6_version 1 = .ok (.iload_n 1, 1) := by decide +kernel
theorem dX6_version_2 : decode cX6_version 2 = .ok (.invokevirtual 67, 3) := by decide +kernel
theorem dX6_version_5 : decode cX6_version 5 = .ok (.getfield 73, 3) := by decide +kernel
theorem dX6_version_8 : decode cX6_version 8 = .ok (.getfield 77, 3) := by decide +kernel
theorem dX6_version_11 : decode cX6_version 11 = .ok (.ireturn, 1) := by decide +kernel
theorem dX6_rankOf_0 : decode cX6_rankOf 0 = .ok (.aload_n 0, 1) := by decide +kernel
theorem dX6_rankOf_1 : decode cX6_rankOf 1 = .ok (.iload_n 1, 1) := by decide +kernel
theorem dX6_rankOf_2 : decode cX6_rankOf 2 = .ok (.invokevirtual 67, 3) := by decide +kernel
theorem dX6_rankOf_5 : decode cX6_rankOf 5 = .ok (.getfield 73, 3) := by decide +kernel
theorem dX6_rankOf_8 : decode cX6_rankOf 8 = .ok (.getfield 110, 3) := by decide +kernel
theorem dX6_rankOf_11 : decode cX6_rankOf 11 = .ok (.ireturn, 1) := by decide +kernel
theorem dX6_force_0 : decode cX6_force 0 = .ok (.iload_n 1, 1) := by decide +kernel
theorem dX6_force_1 : decode cX6_force 1 = .ok (.invokestatic 45, 3) := by decide +kernel
theorem dX6_force_4 : decode cX6_force 4 = .ok (.aload_n 0, 1) := by decide +kernel
theorem dX6_force_5 : decode cX6_force 5 = .ok (.iload_n 1, 1) := by decide +kernel
theorem dX6_force_6 : decode cX6_force 6 = .ok (.invokevirtual 85, 3) := by decide +kernel
theorem dX6_force_9 : decode cX6_force 9 = .ok (.ireturn, 1) := by decide +kernel
theorem dX6_reaches_0 : decode cX6_reaches 0 = .ok (.iload_n 1, 1) := by decide +kernel
theorem dX6_reaches_1 : decode cX6_reaches 1 = .ok (.invokestatic 45, 3) := by decide +kernel
theorem dX6_reaches_4 : decode cX6_reaches 4 = .ok (.aload_n 0, 1) := by decide +kernel
theorem dX6_reaches_5 : decode cX6_reaches 5 = .ok (.getfield 23, 3) := by decide +kernel
theorem dX6_reaches_8 : decode cX6_reaches 8 = .ok (.iload_n 1, 1) := by decide +kernel
theorem dX6_reaches_9 : decode cX6_reaches 9 = .ok (.invokevirtual 123, 3) := by decide +kernel
theorem dX6_reaches_12 : decode cX6_reaches 12 = .ok (.ireturn, 1) := by decide +kernel
theorem dX6_extent_0 : decode cX6_extent 0 = .ok (.iload_n 1, 1) := by decide +kernel
theorem dX6_extent_1 : decode cX6_extent 1 = .ok (.invokestatic 45, 3) := by decide +kernel
theorem dX6_extent_4 : decode cX6_extent 4 = .ok (.aload_n 0, 1) := by decide +kernel
theorem dX6_extent_5 : decode cX6_extent 5 = .ok (.getfield 23, 3) := by decide +kernel
theorem dX6_extent_8 : decode cX6_extent 8 = .ok (.iload_n 1, 1) := by decide +kernel
theorem dX6_extent_9 : decode cX6_extent 9 = .ok (.invokevirtual 126, 3) := by decide +kernel
theorem dX6_extent_12 : decode cX6_extent 12 = .ok (.ireturn, 1) := by decide +kernel
theorem dX6_items_0 : decode cX6_items 0 = .ok (.aload_n 0, 1) := by decide +kernel
theorem dX6_items_1 : decode cX6_items 1 = .ok (.iload_n 1, 1) := by decide +kernel
theorem dX6_items_2 : decode cX6_items 2 = .ok (.invokevirtual 67, 3) := by decide +kernel
theorem dX6_items_5 : decode cX6_items 5 = .ok (.getfield 129, 3) := by decide +kernel
theorem dX6_items_8 : decode cX6_items 8 = .ok (.astore_n 3, 1) := by decide +kernel
theorem dX6_items_9 : decode cX6_items 9 = .ok (.iload_n 2, 1) := by decide +kernel
theorem dX6_items_10 : decode cX6_items 10 = .ok (.invokestatic 49, 3) := by decide +kernel
theorem dX6_items_13 : decode cX6_items 13 = .ok (.aload_n 3, 1) := by decide +kernel
theorem dX6_items_14 : decode cX6_items 14 = .ok (.iload_n 2, 1) := by decide +kernel
theorem dX6_items_15 : decode cX6_items 15 = .ok (.invokevirtual 133, 3) := by decide +kernel
theorem dX6_items_18 : decode cX6_items 18 = .ok (.ireturn, 1) := by decide +kernel
theorem dX6_sortAt_0 : decode cX6_sortAt 0 = .ok (.aload_n 0, 1) := by decide +kernel
theorem dX6_sortAt_1 : decode cX6_sortAt 1 = .ok (.iload_n 1, 1) := by decide +kernel
theorem dX6_sortAt_2 : decode cX6_sortAt 2 = .ok (.invokevirtual 67, 3) := by decide +kernel
theorem dX6_sortAt_5 : decode cX6_sortAt 5 = .ok (.getfield 129, 3) := by decide +kernel
theorem dX6_sortAt_8 : decode cX6_sortAt 8 = .ok (.astore 4, 2) := by decide +kernel
theorem dX6_sortAt_10 : decode cX6_sortAt 10 = .ok (.aload 4, 2) := by decide +kernel
theorem dX6_sortAt_12 : decode cX6_sortAt 12 = .ok (.aload 4, 2) := by decide +kernel
theorem dX6_sortAt_14 : decode cX6_sortAt 14 = .ok (.iload_n 2, 1) := by decide +kernel
theorem dX6_sortAt_15 : decode cX6_sortAt 15 = .ok (.iload_n 3, 1) := by decide +kernel
theorem dX6_sortAt_16 : decode cX6_sortAt 16 = .ok (.invokestatic 138, 3) := by decide +kernel
theorem dX6_sortAt_19 : decode cX6_sortAt 19 = .ok (.invokevirtual 142, 3) := by decide +kernel
theorem dX6_sortAt_22 : decode cX6_sortAt 22 = .ok (.ireturn, 1) := by decide +kernel
theorem dX6_itemAt_0 : decode cX6_itemAt 0 = .ok (.aload_n 0, 1) := by decide +kernel
theorem dX6_itemAt_1 : decode cX6_itemAt 1 = .ok (.iload_n 1, 1) := by decide +kernel
theorem dX6_itemAt_2 : decode cX6_itemAt 2 = .ok (.invokevirtual 67, 3) := by decide +kernel
theorem dX6_itemAt_5 : decode cX6_itemAt 5 = .ok (.getfield 129, 3) := by decide +kernel
theorem dX6_itemAt_8 : decode cX6_itemAt 8 = .ok (.astore 4, 2) := by decide +kernel
theorem dX6_itemAt_10 : decode cX6_itemAt 10 = .ok (.aload 4, 2) := by decide +kernel
theorem dX6_itemAt_12 : decode cX6_itemAt 12 = .ok (.aload 4, 2) := by decide +kernel
theorem dX6_itemAt_14 : decode cX6_itemAt 14 = .ok (.iload_n 2, 1) := by decide +kernel
theorem dX6_itemAt_15 : decode cX6_itemAt 15 = .ok (.iload_n 3, 1) := by decide +kernel
theorem dX6_itemAt_16 : decode cX6_itemAt 16 = .ok (.invokestatic 138, 3) := by decide +kernel
theorem dX6_itemAt_19 : decode cX6_itemAt 19 = .ok (.iload_n 2, 1) := by decide +kernel
theorem dX6_itemAt_20 : decode cX6_itemAt 20 = .ok (.invokevirtual 145, 3) := by decide +kernel
theorem dX6_itemAt_23 : decode cX6_itemAt 23 = .ok (.ireturn, 1) := by decide +kernel
theorem dX6_sourceAt_0 : decode cX6_sourceAt 0 = .ok (.aload_n 0, 1) := by decide +kernel
theorem dX6_sourceAt_1 : decode cX6_sourceAt 1 = .ok (.iload_n 1, 1) := by decide +kernel
theorem dX6_sourceAt_2 : decode cX6_sourceAt 2 = .ok (.invokevirtual 67, 3) := by decide +kernel
theorem dX6_sourceAt_5 : decode cX6_sourceAt 5 = .ok (.getfield 129, 3) := by decide +kernel
theorem dX6_sourceAt_8 : decode cX6_sourceAt 8 = .ok (.astore 4, 2) := by decide +kernel
theorem dX6_sourceAt_10 : decode cX6_sourceAt 10 = .ok (.aload 4, 2) := by decide +kernel
theorem dX6_sourceAt_12 : decode cX6_sourceAt 12 = .ok (.aload 4, 2) := by decide +kernel
theorem dX6_sourceAt_14 : decode cX6_sourceAt 14 = .ok (.iload_n 2, 1) := by decide +kernel
theorem dX6_sourceAt_15 : decode cX6_sourceAt 15 = .ok (.iload_n 3, 1) := by decide +kernel
theorem dX6_sourceAt_16 : decode cX6_sourceAt 16 = .ok (.invokestatic 138, 3) := by decide +kernel
theorem dX6_sourceAt_19 : decode cX6_sourceAt 19 = .ok (.invokevirtual 165, 3) := by decide +kernel
theorem dX6_sourceAt_22 : decode cX6_sourceAt 22 = .ok (.ireturn, 1) := by decide +kernel
theorem dX6_standsFor_0 : decode cX6_standsFor 0 = .ok (.iload_n 1, 1) := by decide +kernel
theorem dX6_standsFor_1 : decode cX6_standsFor 1 = .ok (.invokestatic 45, 3) := by decide +kernel
theorem dX6_standsFor_4 : decode cX6_standsFor 4 = .ok (.aload_n 0, 1) := by decide +kernel
theorem dX6_standsFor_5 : decode cX6_standsFor 5 = .ok (.iload_n 1, 1) := by decide +kernel
theorem dX6_standsFor_6 : decode cX6_standsFor 6 = .ok (.invokevirtual 168, 3) := by decide +kernel
theorem dX6_standsFor_9 : decode cX6_standsFor 9 = .ok (.ireturn, 1) := by decide +kernel
theorem dX6_links_0 : decode cX6_links 0 = .ok (.aload_n 0, 1) := by decide +kernel
theorem dX6_links_1 : decode cX6_links 1 = .ok (.iload_n 1, 1) := by decide +kernel
theorem dX6_links_2 : decode cX6_links 2 = .ok (.invokevirtual 67, 3) := by decide +kernel
theorem dX6_links_5 : decode cX6_links 5 = .ok (.getfield 129, 3) := by decide +kernel
theorem dX6_links_8 : decode cX6_links 8 = .ok (.astore_n 2, 1) := by decide +kernel
theorem dX6_links_9 : decode cX6_links 9 = .ok (.iconst 0, 1) := by decide +kernel
theorem dX6_links_10 : decode cX6_links 10 = .ok (.istore_n 3, 1) := by decide +kernel
theorem dX6_links_11 : decode cX6_links 11 = .ok (.iconst 0, 1) := by decide +kernel
theorem dX6_links_12 : decode cX6_links 12 = .ok (.istore 4, 2) := by decide +kernel
theorem dX6_links_14 : decode cX6_links 14 = .ok (.iload 4, 2) := by decide +kernel
theorem dX6_links_16 : decode cX6_links 16 = .ok (.aload_n 2, 1) := by decide +kernel
theorem dX6_links_17 : decode cX6_links 17 = .ok (.getfield 171, 3) := by decide +kernel
theorem dX6_links_20 : decode cX6_links 20 = .ok (.if_icmp .ge 22, 3) := by decide +kernel
theorem dX6_links_23 : decode cX6_links 23 = .ok (.aload_n 2, 1) := by decide +kernel
theorem dX6_links_24 : decode cX6_links 24 = .ok (.iload 4, 2) := by decide +kernel
theorem dX6_links_26 : decode cX6_links 26 = .ok (.iconst 2, 1) := by decide +kernel
theorem dX6_links_27 : decode cX6_links 27 = .ok (.invokevirtual 174, 3) := by decide +kernel
theorem dX6_links_30 : decode cX6_links 30 = .ok (.ifCond .eq 6, 3) := by decide +kernel
theorem dX6_links_33 : decode cX6_links 33 = .ok (.iinc 3 1, 3) := by decide +kernel
theorem dX6_links_36 : decode cX6_links 36 = .ok (.iinc 4 1, 3) := by decide +kernel
theorem dX6_links_39 : decode cX6_links 39 = .ok (.goto (-25), 3) := by decide +kernel
theorem dX6_links_42 : decode cX6_links 42 = .ok (.iload_n 3, 1) := by decide +kernel
theorem dX6_links_43 : decode cX6_links 43 = .ok (.ireturn, 1) := by decide +kernel
theorem dX6_broken_0 : decode cX6_broken 0 = .ok (.aload_n 0, 1) := by decide +kernel
theorem dX6_broken_1 : decode cX6_broken 1 = .ok (.iload_n 1, 1) := by decide +kernel
theorem dX6_broken_2 : decode cX6_broken 2 = .ok (.invokevirtual 67, 3) := by decide +kernel
theorem dX6_broken_5 : decode cX6_broken 5 = .ok (.getfield 129, 3) := by decide +kernel
theorem dX6_broken_8 : decode cX6_broken 8 = .ok (.astore_n 2, 1) := by decide +kernel
theorem dX6_broken_9 : decode cX6_broken 9 = .ok (.iconst 0, 1) := by decide +kernel
theorem dX6_broken_10 : decode cX6_broken 10 = .ok (.istore_n 3, 1) := by decide +kernel
theorem dX6_broken_11 : decode cX6_broken 11 = .ok (.iconst 0, 1) := by decide +kernel
theorem dX6_broken_12 : decode cX6_broken 12 = .ok (.istore 4, 2) := by decide +kernel
theorem dX6_broken_14 : decode cX6_broken 14 = .ok (.iload 4, 2) := by decide +kernel
theorem dX6_broken_16 : decode cX6_broken 16 = .ok (.aload_n 2, 1) := by decide +kernel
theorem dX6_broken_17 : decode cX6_broken 17 = .ok (.getfield 171, 3) := by decide +kernel
theorem dX6_broken_20 : decode cX6_broken 20 = .ok (.if_icmp .ge 22, 3) := by decide +kernel
theorem dX6_broken_23 : decode cX6_broken 23 = .ok (.aload_n 0, 1) := by decide +kernel
theorem dX6_broken_24 : decode cX6_broken 24 = .ok (.aload_n 2, 1) := by decide +kernel
theorem dX6_broken_25 : decode cX6_broken 25 = .ok (.iload 4, 2) := by decide +kernel
theorem dX6_broken_27 : decode cX6_broken 27 = .ok (.invokevirtual 178, 3) := by decide +kernel
theorem dX6_broken_30 : decode cX6_broken 30 = .ok (.ifCond .eq 6, 3) := by decide +kernel
theorem dX6_broken_33 : decode cX6_broken 33 = .ok (.iinc 3 1, 3) := by decide +kernel
theorem dX6_broken_36 : decode cX6_broken 36 = .ok (.iinc 4 1, 3) := by decide +kernel
theorem dX6_broken_39 : decode cX6_broken 39 = .ok (.goto (-25), 3) := by decide +kernel
theorem dX6_broken_42 : decode cX6_broken 42 = .ok (.iload_n 3, 1) := by decide +kernel
theorem dX6_broken_43 : decode cX6_broken 43 = .ok (.ireturn, 1) := by decide +kernel
theorem dX6_firstBroken_0 : decode cX6_firstBroken 0 = .ok (.aload_n 0, 1) := by decide +kernel
theorem dX6_firstBroken_1 : decode cX6_firstBroken 1 = .ok (.iload_n 1, 1) := by decide +kernel
theorem dX6_firstBroken_2 : decode cX6_firstBroken 2 = .ok (.invokevirtual 67, 3) := by decide +kernel
theorem dX6_firstBroken_5 : decode cX6_firstBroken 5 = .ok (.getfield 129, 3) := by decide +kernel
theorem dX6_firstBroken_8 : decode cX6_firstBroken 8 = .ok (.astore_n 2, 1) := by decide +kernel
theorem dX6_firstBroken_9 : decode cX6_firstBroken 9 = .ok (.iconst 0, 1) := by decide +kernel
theorem dX6_firstBroken_10 : decode cX6_firstBroken 10 = .ok (.istore_n 3, 1) := by decide +kernel
theorem dX6_firstBroken_11 : decode cX6_firstBroken 11 = .ok (.iload_n 3, 1) := by decide +kernel
theorem dX6_firstBroken_12 : decode cX6_firstBroken 12 = .ok (.aload_n 2, 1) := by decide +kernel
theorem dX6_firstBroken_13 : decode cX6_firstBroken 13 = .ok (.getfield 171, 3) := by decide +kernel
theorem dX6_firstBroken_16 : decode cX6_firstBroken 16 = .ok (.if_icmp .ge 25, 3) := by decide +kernel
theorem dX6_firstBroken_19 : decode cX6_firstBroken 19 = .ok (.aload_n 0, 1) := by decide +kernel
theorem dX6_firstBroken_20 : decode cX6_firstBroken 20 = .ok (.aload_n 2, 1) := by decide +kernel
theorem dX6_firstBroken_21 : decode cX6_firstBroken 21 = .ok (.iload_n 3, 1) := by decide +kernel
theorem dX6_firstBroken_22 : decode cX6_firstBroken 22 = .ok (.invokevirtual 178, 3) := by decide +kernel
theorem dX6_firstBroken_25 : decode cX6_firstBroken 25 = .ok (.ifCond .eq 10, 3) := by decide +kernel
theorem dX6_firstBroken_28 : decode cX6_firstBroken 28 = .ok (.aload_n 2, 1) := by decide +kernel
theorem dX6_firstBroken_29 : decode cX6_firstBroken 29 = .ok (.iload_n 3, 1) := by decide +kernel
theorem dX6_firstBroken_30 : decode cX6_firstBroken 30 = .ok (.iconst (-1), 1) := by decide +kernel
theorem dX6_firstBroken_31 : decode cX6_firstBroken 31 = .ok (.invokevirtual 145, 3) := by decide +kernel
theorem dX6_firstBroken_34 : decode cX6_firstBroken 34 = .ok (.ireturn, 1) := by decide +kernel
theorem dX6_firstBroken_35 : decode cX6_firstBroken 35 = .ok (.iinc 3 1, 3) := by decide +kernel
theorem dX6_firstBroken_38 : decode cX6_firstBroken 38 = .ok (.goto (-27), 3) := by decide +kernel
theorem dX6_firstBroken_41 : decode cX6_firstBroken 41 = .ok (.iconst (-1), 1) := by decide +kernel
theorem dX6_firstBroken_42 : decode cX6_firstBroken 42 = .ok (.ireturn, 1) := by decide +kernel
theorem dX6_linkedFrom_0 : decode cX6_linkedFrom 0 = .ok (.iload_n 1, 1) := by decide +kernel
theorem dX6_linkedFrom_1 : decode cX6_linkedFrom 1 = .ok (.invokestatic 45, 3) := by decide +kernel
theorem dX6_linkedFrom_4 : decode cX6_linkedFrom 4 = .ok (.iconst 0, 1) := by decide +kernel
theorem dX6_linkedFrom_5 : decode cX6_linkedFrom 5 = .ok (.istore_n 2, 1) := by decide +kernel
theorem dX6_linkedFrom_6 : decode cX6_linkedFrom 6 = .ok (.iconst 0, 1) := by decide +kernel
theorem dX6_linkedFrom_7 : decode cX6_linkedFrom 7 = .ok (.istore_n 3, 1) := by decide +kernel
theorem dX6_linkedFrom_8 : decode cX6_linkedFrom 8 = .ok (.iload_n 3, 1) := by decide +kernel
theorem dX6_linkedFrom_9 : decode cX6_linkedFrom 9 = .ok (.bipush 12, 2) := by decide +kernel
theorem dX6_linkedFrom_11 : decode cX6_linkedFrom 11 = .ok (.if_icmp .ge 24, 3) := by decide +kernel
theorem dX6_linkedFrom_14 : decode cX6_linkedFrom 14 = .ok (.aload_n 0, 1) := by decide +kernel
theorem dX6_linkedFrom_15 : decode cX6_linkedFrom 15 = .ok (.iload_n 3, 1) := by decide +kernel
theorem dX6_linkedFrom_16 : decode cX6_linkedFrom 16 = .ok (.iload_n 1, 1) := by decide +kernel
theorem dX6_linkedFrom_17 : decode cX6_linkedFrom 17 = .ok (.invokevirtual 182, 3) := by decide +kernel
theorem dX6_linkedFrom_20 : decode cX6_linkedFrom 20 = .ok (.ifCond .eq 9, 3) := by decide +kernel
theorem dX6_linkedFrom_23 : decode cX6_linkedFrom 23 = .ok (.iload_n 2, 1) := by decide +kernel
theorem dX6_linkedFrom_24 : decode cX6_linkedFrom 24 = .ok (.iconst 1, 1) := by decide +kernel
theorem dX6_linkedFrom_25 : decode cX6_linkedFrom 25 = .ok (.iload_n 3, 1) := by decide +kernel
theorem dX6_linkedFrom_26 : decode cX6_linkedFrom 26 = .ok (.ishl, 1) := by decide +kernel
theorem dX6_linkedFrom_27 : decode cX6_linkedFrom 27 = .ok (.ior, 1) := by decide +kernel
theorem dX6_linkedFrom_28 : decode cX6_linkedFrom 28 = .ok (.istore_n 2, 1) := by decide +kernel
theorem dX6_linkedFrom_29 : decode cX6_linkedFrom 29 = .ok (.iinc 3 1, 3) := by decide +kernel
theorem dX6_linkedFrom_32 : decode cX6_linkedFrom 32 = .ok (.goto (-24), 3) := by decide +kernel
theorem dX6_linkedFrom_35 : decode cX6_linkedFrom 35 = .ok (.iload_n 2, 1) := by decide +kernel
theorem dX6_linkedFrom_36 : decode cX6_linkedFrom 36 = .ok (.ireturn, 1) := by decide +kernel
theorem dX6_breaches_0 : decode cX6_breaches 0 = .ok (.aload_n 0, 1) := by decide +kernel
theorem dX6_breaches_1 : decode cX6_breaches 1 = .ok (.aload_n 0, 1) := by decide +kernel
theorem dX6_breaches_2 : decode cX6_breaches 2 = .ok (.iload_n 1, 1) := by decide +kernel
theorem dX6_breaches_3 : decode cX6_breaches 3 = .ok (.invokevirtual 67, 3) := by decide +kernel
theorem dX6_breaches_6 : decode cX6_breaches 6 = .ok (.invokevirtual 185, 3) := by decide +kernel
theorem dX6_breaches_9 : decode cX6_breaches 9 = .ok (.ireturn, 1) := by decide +kernel
theorem dX6_breached_0 : decode cX6_breached 0 = .ok (.iconst 0, 1) := by decide +kernel
theorem dX6_breached_1 : decode cX6_breached 1 = .ok (.istore_n 1, 1) := by decide +kernel
theorem dX6_breached_2 : decode cX6_breached 2 = .ok (.iconst 0, 1) := by decide +kernel
theorem dX6_breached_3 : decode cX6_breached 3 = .ok (.istore_n 2, 1) := by decide +kernel
theorem dX6_breached_4 : decode cX6_breached 4 = .ok (.iload_n 2, 1) := by decide +kernel
theorem dX6_breached_5 : decode cX6_breached 5 = .ok (.bipush 12, 2) := by decide +kernel
theorem dX6_breached_7 : decode cX6_breached 7 = .ok (.if_icmp .ge 24, 3) := by decide +kernel
theorem dX6_breached_10 : decode cX6_breached 10 = .ok (.aload_n 0, 1) := by decide +kernel
theorem dX6_breached_11 : decode cX6_breached 11 = .ok (.aload_n 0, 1) := by decide +kernel
theorem dX6_breached_12 : decode cX6_breached 12 = .ok (.iload_n 2, 1) := by decide +kernel
theorem dX6_breached_13 : decode cX6_breached 13 = .ok (.invokevirtual 67, 3) := by decide +kernel
theorem dX6_breached_16 : decode cX6_breached 16 = .ok (.invokevirtual 185, 3) := by decide +kernel
theorem dX6_breached_19 : decode cX6_breached 19 = .ok (.ifCond .le 6, 3) := by decide +kernel
theorem dX6_breached_22 : decode cX6_breached 22 = .ok (.iinc 1 1, 3) := by decide +kernel
theorem dX6_breached_25 : decode cX6_breached 25 = .ok (.iinc 2 1, 3) := by decide +kernel
theorem dX6_breached_28 : decode cX6_breached 28 = .ok (.goto (-24), 3) := by decide +kernel
theorem dX6_breached_31 : decode cX6_breached 31 = .ok (.iload_n 1, 1) := by decide +kernel
theorem dX6_breached_32 : decode cX6_breached 32 = .ok (.ireturn, 1) := by decide +kernel
theorem dX6_requireBelow_0 : decode cX6_requireBelow 0 = .ok (.iload_n 0, 1) := by decide +kernel
theorem dX6_requireBelow_1 : decode cX6_requireBelow 1 = .ok (.ifCond .lt 8, 3) := by decide +kernel
theorem dX6_requireBelow_4 : decode cX6_requireBelow 4 = .ok (.iload_n 0, 1) := by decide +kernel
theorem dX6_requireBelow_5 : decode cX6_requireBelow 5 = .ok (.iload_n 1, 1) := by decide +kernel
theorem dX6_requireBelow_6 : decode cX6_requireBelow 6 = .ok (.if_icmp .lt 13, 3) := by decide +kernel
theorem dX6_requireBelow_9 : decode cX6_requireBelow 9 = .ok (.new 189, 3) := by decide +kernel
theorem dX6_requireBelow_12 : decode cX6_requireBelow 12 = .ok (.dup, 1) := by decide +kernel
theorem dX6_requireBelow_13 : decode cX6_requireBelow 13 = .ok (.ldc 191, 2) := by decide +kernel
theorem dX6_requireBelow_15 : decode cX6_requireBelow 15 = .ok (.invokespecial 193, 3) := by decide +kernel
theorem dX6_requireBelow_18 : decode cX6_requireBelow 18 = .ok (.athrow, 1) := by decide +kernel
theorem dX6_requireBelow_19 : decode cX6_requireBelow 19 = .ok (.return_, 1) := by decide +kernel
theorem dX6_requireArgument_0 : decode cX6_requireArgument 0 = .ok (.iload_n 0, 1) := by decide +kernel
theorem dX6_requireArgument_1 : decode cX6_requireArgument 1 = .ok (.iconst (-1), 1) := by decide +kernel
theorem dX6_requireArgument_2 : decode cX6_requireArgument 2 = .ok (.if_icmp .eq 9, 3) := by decide +kernel
theorem dX6_requireArgument_5 : decode cX6_requireArgument 5 = .ok (.iload_n 0, 1) := by decide +kernel
theorem dX6_requireArgument_6 : decode cX6_requireArgument 6 = .ok (.bipush 26, 2) := by decide +kernel
theorem dX6_requireArgument_8 : decode cX6_requireArgument 8 = .ok (.invokestatic 37, 3) := by decide +kernel
theorem dX6_requireArgument_11 : decode cX6_requireArgument 11 = .ok (.return_, 1) := by decide +kernel
theorem dX6_requirePage_0 : decode cX6_requirePage 0 = .ok (.iload_n 0, 1) := by decide +kernel
theorem dX6_requirePage_1 : decode cX6_requirePage 1 = .ok (.ifCond .lt 9, 3) := by decide +kernel
theorem dX6_requirePage_4 : decode cX6_requirePage 4 = .ok (.iload_n 0, 1) := by decide +kernel
theorem dX6_requirePage_5 : decode cX6_requirePage 5 = .ok (.bipush 12, 2) := by decide +kernel
theorem dX6_requirePage_7 : decode cX6_requirePage 7 = .ok (.if_icmp .lt 13, 3) := by decide +kernel
theorem dX6_requirePage_10 : decode cX6_requirePage 10 = .ok (.new 194, 3) := by decide +kernel
theorem dX6_requirePage_13 : decode cX6_requirePage 13 = .ok (.dup, 1) := by decide +kernel
theorem dX6_requirePage_14 : decode cX6_requirePage 14 = .ok (.ldc 196, 2) := by decide +kernel
theorem dX6_requirePage_16 : decode cX6_requirePage 16 = .ok (.invokespecial 198, 3) := by decide +kernel
theorem dX6_requirePage_19 : decode cX6_requirePage 19 = .ok (.athrow, 1) := by decide +kernel
theorem dX6_requirePage_20 : decode cX6_requirePage 20 = .ok (.return_, 1) := by decide +kernel
theorem dX6_pageAt_0 : decode cX6_pageAt 0 = .ok (.iload_n 1, 1) := by decide +kernel
theorem dX6_pageAt_1 : decode cX6_pageAt 1 = .ok (.ifCond .lt 21, 3) := by decide +kernel
theorem dX6_pageAt_4 : decode cX6_pageAt 4 = .ok (.iload_n 1, 1) := by decide +kernel
theorem dX6_pageAt_5 : decode cX6_pageAt 5 = .ok (.aload_n 0, 1) := by decide +kernel
theorem dX6_pageAt_6 : decode cX6_pageAt 6 = .ok (.getfield 32, 3) := by decide +kernel
theorem dX6_pageAt_9 : decode cX6_pageAt 9 = .ok (.arraylength, 1) := by decide +kernel
theorem dX6_pageAt_10 : decode cX6_pageAt 10 = .ok (.if_icmp .ge 12, 3) := by decide +kernel
theorem dX6_pageAt_13 : decode cX6_pageAt 13 = .ok (.aload_n 0, 1) := by decide +kernel
theorem dX6_pageAt_14 : decode cX6_pageAt 14 = .ok (.getfield 32, 3) := by decide +kernel
theorem dX6_pageAt_17 : decode cX6_pageAt 17 = .ok (.iload_n 1, 1) := by decide +kernel
theorem dX6_pageAt_18 : decode cX6_pageAt 18 = .ok (.aaload, 1) := by decide +kernel
theorem dX6_pageAt_19 : decode cX6_pageAt 19 = .ok (.goto 4, 3) := by decide +kernel
theorem dX6_pageAt_22 : decode cX6_pageAt 22 = .ok (.aconst_null, 1) := by decide +kernel
theorem dX6_pageAt_23 : decode cX6_pageAt 23 = .ok (.astore_n 2, 1) := by decide +kernel
theorem dX6_pageAt_24 : decode cX6_pageAt 24 = .ok (.aload_n 2, 1) := by decide +kernel
theorem dX6_pageAt_25 : decode cX6_pageAt 25 = .ok (.ifnonnull 13, 3) := by decide +kernel
theorem dX6_pageAt_28 : decode cX6_pageAt 28 = .ok (.new 194, 3) := by decide +kernel
theorem dX6_pageAt_31 : decode cX6_pageAt 31 = .ok (.dup, 1) := by decide +kernel
theorem dX6_pageAt_32 : decode cX6_pageAt 32 = .ok (.ldc 196, 2) := by decide +kernel
theorem dX6_pageAt_34 : decode cX6_pageAt 34 = .ok (.invokespecial 198, 3) := by decide +kernel
theorem dX6_pageAt_37 : decode cX6_pageAt 37 = .ok (.athrow, 1) := by decide +kernel
theorem dX6_pageAt_38 : decode cX6_pageAt 38 = .ok (.aload_n 2, 1) := by decide +kernel
theorem dX6_pageAt_39 : decode cX6_pageAt 39 = .ok (.areturn, 1) := by decide +kernel
theorem dX6_rankOfUser_0 : decode cX6_rankOfUser 0 = .ok (.iload_n 1, 1) := by decide +kernel
theorem dX6_rankOfUser_1 : decode cX6_rankOfUser 1 = .ok (.ifCond .lt 9, 3) := by decide +kernel
theorem dX6_rankOfUser_4 : decode cX6_rankOfUser 4 = .ok (.iload_n 1, 1) := by decide +kernel
theorem dX6_rankOfUser_5 : decode cX6_rankOfUser 5 = .ok (.bipush 6, 2) := by decide +kernel
theorem dX6_rankOfUser_7 : decode cX6_rankOfUser 7 = .ok (.if_icmp .lt 13, 3) := by decide +kernel
theorem dX6_rankOfUser_10 : decode cX6_rankOfUser 10 = .ok (.new 194, 3) := by decide +kernel
theorem dX6_rankOfUser_13 : decode cX6_rankOfUser 13 = .ok (.dup, 1) := by decide +kernel
theorem dX6_rankOfUser_14 : decode cX6_rankOfUser 14 = .ok (.ldc 199, 2) := by decide +kernel
theorem dX6_rankOfUser_16 : decode cX6_rankOfUser 16 = .ok (.invokespecial 198, 3) := by decide +kernel
theorem dX6_rankOfUser_19 : decode cX6_rankOfUser 19 = .ok (.athrow, 1) := by decide +kernel
theorem dX6_rankOfUser_20 : decode cX6_rankOfUser 20 = .ok (.aload_n 0, 1) := by decide +kernel
theorem dX6_rankOfUser_21 : decode cX6_rankOfUser 21 = .ok (.getfield 16, 3) := by decide +kernel
theorem dX6_rankOfUser_24 : decode cX6_rankOfUser 24 = .ok (.iload_n 1, 1) := by decide +kernel
theorem dX6_rankOfUser_25 : decode cX6_rankOfUser 25 = .ok (.invokestatic 201, 3) := by decide +kernel
theorem dX6_rankOfUser_28 : decode cX6_rankOfUser 28 = .ok (.ireturn, 1) := by decide +kernel
theorem dX6_indexOf_0 : decode cX6_indexOf 0 = .ok (.iload_n 1, 1) := by decide +kernel
theorem dX6_indexOf_1 : decode cX6_indexOf 1 = .ok (.invokestatic 49, 3) := by decide +kernel
theorem dX6_indexOf_4 : decode cX6_indexOf 4 = .ok (.aload_n 0, 1) := by decide +kernel
theorem dX6_indexOf_5 : decode cX6_indexOf 5 = .ok (.iload_n 1, 1) := by decide +kernel
theorem dX6_indexOf_6 : decode cX6_indexOf 6 = .ok (.iload_n 2, 1) := by decide +kernel
theorem dX6_indexOf_7 : decode cX6_indexOf 7 = .ok (.invokevirtual 205, 3) := by decide +kernel
theorem dX6_indexOf_10 : decode cX6_indexOf 10 = .ok (.istore_n 3, 1) := by decide +kernel
theorem dX6_indexOf_11 : decode cX6_indexOf 11 = .ok (.iload_n 3, 1) := by decide +kernel
theorem dX6_indexOf_12 : decode cX6_indexOf 12 = .ok (.iconst (-1), 1) := by decide +kernel
theorem dX6_indexOf_13 : decode cX6_indexOf 13 = .ok (.if_icmp .ne 13, 3) := by decide +kernel
theorem dX6_indexOf_16 : decode cX6_indexOf 16 = .ok (.new 160, 3) := by decide +kernel
theorem dX6_indexOf_19 : decode cX6_indexOf 19 = .ok (.dup, 1) := by decide +kernel
theorem dX6_indexOf_20 : decode cX6_indexOf 20 = .ok (.ldc 162, 2) := by decide +kernel
theorem dX6_indexOf_22 : decode cX6_indexOf 22 = .ok (.invokespecial 164, 3) := by decide +kernel
theorem dX6_indexOf_25 : decode cX6_indexOf 25 = .ok (.athrow, 1) := by decide +kernel
theorem dX6_indexOf_26 : decode cX6_indexOf 26 = .ok (.iload_n 3, 1) := by decide +kernel
theorem dX6_indexOf_27 : decode cX6_indexOf 27 = .ok (.ireturn, 1) := by decide +kernel
theorem dX6_addPiece_0 : decode cX6_addPiece 0 = .ok (.aload_n 0, 1) := by decide +kernel
theorem dX6_addPiece_1 : decode cX6_addPiece 1 = .ok (.getfield 12, 3) := by decide +kernel
theorem dX6_addPiece_4 : decode cX6_addPiece 4 = .ok (.getfield 208, 3) := by decide +kernel
theorem dX6_addPiece_7 : decode cX6_addPiece 7 = .ok (.bipush 30, 2) := by decide +kernel
theorem dX6_addPiece_9 : decode cX6_addPiece 9 = .ok (.if_icmp .lt 13, 3) := by decide +kernel
theorem dX6_addPiece_12 : decode cX6_addPiece 12 = .ok (.new 56, 3) := by decide +kernel
theorem dX6_addPiece_15 : decode cX6_addPiece 15 = .ok (.dup, 1) := by decide +kernel
theorem dX6_addPiece_16 : decode cX6_addPiece 16 = .ok (.ldc 209, 2) := by decide +kernel
theorem dX6_addPiece_18 : decode cX6_addPiece 18 = .ok (.invokespecial 60, 3) := by decide +kernel
theorem dX6_addPiece_21 : decode cX6_addPiece 21 = .ok (.athrow, 1) := by decide +kernel
theorem dX6_addPiece_22 : decode cX6_addPiece 22 = .ok (.aload_n 0, 1) := by decide +kernel
theorem dX6_addPiece_23 : decode cX6_addPiece 23 = .ok (.getfield 12, 3) := by decide +kernel
theorem dX6_addPiece_26 : decode cX6_addPiece 26 = .ok (.iload_n 1, 1) := by decide +kernel
theorem dX6_addPiece_27 : decode cX6_addPiece 27 = .ok (.iload_n 2, 1) := by decide +kernel
theorem dX6_addPiece_28 : decode cX6_addPiece 28 = .ok (.iload_n 3, 1) := by decide +kernel
theorem dX6_addPiece_29 : decode cX6_addPiece 29 = .ok (.invokevirtual 211, 3) := by decide +kernel
theorem dX6_addPiece_32 : decode cX6_addPiece 32 = .ok (.aload_n 0, 1) := by decide +kernel
theorem dX6_addPiece_33 : decode cX6_addPiece 33 = .ok (.getfield 12, 3) := by decide +kernel
theorem dX6_addPiece_36 : decode cX6_addPiece 36 = .ok (.getfield 208, 3) := by decide +kernel
theorem dX6_addPiece_39 : decode cX6_addPiece 39 = .ok (.ireturn, 1) := by decide +kernel
theorem dX6_refusalOf_0 : decode cX6_refusalOf 0 = .ok (.aload_n 0, 1) := by decide +kernel
theorem dX6_refusalOf_1 : decode cX6_refusalOf 1 = .ok (.getfield 27, 3) := by decide +kernel
theorem dX6_refusalOf_4 : decode cX6_refusalOf 4 = .ok (.aload_n 0, 1) := by decide +kernel
theorem dX6_refusalOf_5 : decode cX6_refusalOf 5 = .ok (.getfield 23, 3) := by decide +kernel
theorem dX6_refusalOf_8 : decode cX6_refusalOf 8 = .ok (.invokevirtual 215, 3) := by decide +kernel
theorem dX6_refusalOf_11 : decode cX6_refusalOf 11 = .ok (.aload_n 0, 1) := by decide +kernel
theorem dX6_refusalOf_12 : decode cX6_refusalOf 12 = .ok (.getfield 27, 3) := by decide +kernel
theorem dX6_refusalOf_15 : decode cX6_refusalOf 15 = .ok (.iload_n 1, 1) := by decide +kernel
theorem dX6_refusalOf_16 : decode cX6_refusalOf 16 = .ok (.aload_n 2, 1) := by decide +kernel
theorem dX6_refusalOf_17 : decode cX6_refusalOf 17 = .ok (.invokevirtual 219, 3) := by decide +kernel
theorem dX6_refusalOf_20 : decode cX6_refusalOf 20 = .ok (.aload_n 0, 1) := by decide +kernel
theorem dX6_refusalOf_21 : decode cX6_refusalOf 21 = .ok (.getfield 27, 3) := by decide +kernel
theorem dX6_refusalOf_24 : decode cX6_refusalOf 24 = .ok (.invokevirtual 223, 3) := by decide +kernel
theorem dX6_refusalOf_27 : decode cX6_refusalOf 27 = .ok (.aload_n 0, 1) := by decide +kernel
theorem dX6_refusalOf_28 : decode cX6_refusalOf 28 = .ok (.getfield 27, 3) := by decide +kernel
theorem dX6_refusalOf_31 : decode cX6_refusalOf 31 = .ok (.iload_n 1, 1) := by decide +kernel
theorem dX6_refusalOf_32 : decode cX6_refusalOf 32 = .ok (.invokevirtual 123, 3) := by decide +kernel
theorem dX6_refusalOf_35 : decode cX6_refusalOf 35 = .ok (.iload_n 1, 1) := by decide +kernel
theorem dX6_refusalOf_36 : decode cX6_refusalOf 36 = .ok (.invokestatic 226, 3) := by decide +kernel
theorem dX6_refusalOf_39 : decode cX6_refusalOf 39 = .ok (.ifCond .eq 6, 3) := by decide +kernel
theorem dX6_refusalOf_42 : decode cX6_refusalOf 42 = .ok (.bipush (-3), 2) := by decide +kernel
theorem dX6_refusalOf_44 : decode cX6_refusalOf 44 = .ok (.ireturn, 1) := by decide +kernel
theorem dX6_refusalOf_45 : decode cX6_refusalOf 45 = .ok (.aload_n 0, 1) := by decide +kernel
theorem dX6_refusalOf_46 : decode cX6_refusalOf 46 = .ok (.getfield 27, 3) := by decide +kernel
theorem dX6_refusalOf_49 : decode cX6_refusalOf 49 = .ok (.invokevirtual 229, 3) := by decide +kernel
theorem dX6_refusalOf_52 : decode cX6_refusalOf 52 = .ok (.aload_n 0, 1) := by decide +kernel
theorem dX6_refusalOf_53 : decode cX6_refusalOf 53 = .ok (.getfield 27, 3) := by decide +kernel
theorem dX6_refusalOf_56 : decode cX6_refusalOf 56 = .ok (.invokevirtual 232, 3) := by decide +kernel
theorem dX6_refusalOf_59 : decode cX6_refusalOf 59 = .ok (.iconst 5, 1) := by decide +kernel
theorem dX6_refusalOf_60 : decode cX6_refusalOf 60 = .ok (.if_icmp .le 6, 3) := by decide +kernel
theorem dX6_refusalOf_63 : decode cX6_refusalOf 63 = .ok (.bipush (-4), 2) := by decide +kernel
theorem dX6_refusalOf_65 : decode cX6_refusalOf 65 = .ok (.ireturn, 1) := by decide +kernel
theorem dX6_refusalOf_66 : decode cX6_refusalOf 66 = .ok (.aload_n 0, 1) := by decide +kernel
theorem dX6_refusalOf_67 : decode cX6_refusalOf 67 = .ok (.getfield 27, 3) := by decide +kernel
theorem dX6_refusalOf_70 : decode cX6_refusalOf 70 = .ok (.invokevirtual 236, 3) := by decide +kernel
theorem dX6_refusalOf_73 : decode cX6_refusalOf 73 = .ok (.aload_n 0, 1) := by decide +kernel
theorem dX6_refusalOf_74 : decode cX6_refusalOf 74 = .ok (.getfield 27, 3) := by decide +kernel
theorem dX6_refusalOf_77 : decode cX6_refusalOf 77 = .ok (.invokevirtual 239, 3) := by decide +kernel
theorem dX6_refusalOf_80 : decode cX6_refusalOf 80 = .ok (.bipush 100, 2) := by decide +kernel
theorem dX6_refusalOf_82 : decode cX6_refusalOf 82 = .ok (.if_icmp .le 6, 3) := by decide +kernel
theorem dX6_refusalOf_85 : decode cX6_refusalOf 85 = .ok (.bipush (-5), 2) := by decide +kernel
theorem dX6_refusalOf_87 : decode cX6_refusalOf 87 = .ok (.ireturn, 1) := by decide +kernel
theorem dX6_refusalOf_88 : decode cX6_refusalOf 88 = .ok (.aload_n 0, 1) := by decide +kernel
theorem dX6_refusalOf_89 : decode cX6_refusalOf 89 = .ok (.getfield 27, 3) := by decide +kernel
theorem dX6_refusalOf_92 : decode cX6_refusalOf 92 = .ok (.iload_n 1, 1) := by decide +kernel
theorem dX6_refusalOf_93 : decode cX6_refusalOf 93 = .ok (.invokevirtual 123, 3) := by decide +kernel
theorem dX6_refusalOf_96 : decode cX6_refusalOf 96 = .ok (.aload_n 0, 1) := by decide +kernel
theorem dX6_refusalOf_97 : decode cX6_refusalOf 97 = .ok (.getfield 23, 3) := by decide +kernel
theorem dX6_refusalOf_100 : decode cX6_refusalOf 100 = .ok (.iload_n 1, 1) := by decide +kernel
theorem dX6_refusalOf_101 : decode cX6_refusalOf 101 = .ok (.invokevirtual 123, 3) := by decide +kernel
theorem dX6_refusalOf_104 : decode cX6_refusalOf 104 = .ok (.iconst (-1), 1) := by decide +kernel
theorem dX6_refusalOf_105 : decode cX6_refusalOf 105 = .ok (.ixor, 1) := by decide +kernel
theorem dX6_refusalOf_106 : decode cX6_refusalOf 106 = .ok (.iand, 1) := by decide +kernel
theorem dX6_refusalOf_107 : decode cX6_refusalOf 107 = .ok (.istore_n 3, 1) := by decide +kernel
theorem dX6_refusalOf_108 : decode cX6_refusalOf 108 = .ok (.aload_n 0, 1) := by decide +kernel
theorem dX6_refusalOf_109 : decode cX6_refusalOf 109 = .ok (.iload_n 3, 1) := by decide +kernel
theorem dX6_refusalOf_110 : decode cX6_refusalOf 110 = .ok (.aload_n 0, 1) := by decide +kernel
theorem dX6_refusalOf_111 : decode cX6_refusalOf 111 = .ok (.iload_n 1, 1) := by decide +kernel
theorem dX6_refusalOf_112 : decode cX6_refusalOf 112 = .ok (.invokevirtual 85, 3) := by decide +kernel
theorem dX6_refusalOf_115 : decode cX6_refusalOf 115 = .ok (.invokevirtual 242, 3) := by decide +kernel
theorem dX6_refusalOf_118 : decode cX6_refusalOf 118 = .ok (.ifCond .eq 8, 3) := by decide +kernel
theorem dX6_refusalOf_121 : decode cX6_refusalOf 121 = .ok (.bipush (-6), 2) := by decide +kernel
theorem dX6_refusalOf_123 : decode cX6_refusalOf 123 = .ok (.goto 4, 3) := by decide +kernel
theorem dX6_refusalOf_126 : decode cX6_refusalOf 126 = .ok (.iconst (-1), 1) := by decide +kernel
theorem dX6_refusalOf_127 : decode cX6_refusalOf 127 = .ok (.ireturn, 1) := by decide +kernel
theorem dX6_hasRankBelow_0 : decode cX6_hasRankBelow 0 = .ok (.iconst 0, 1) := by decide +kernel
theorem dX6_hasRankBelow_1 : decode cX6_hasRankBelow 1 = .ok (.istore_n 3, 1) := by decide +kernel
theorem dX6_hasRankBelow_2 : decode cX6_hasRankBelow 2 = .ok (.iload_n 3, 1) := by decide +kernel
theorem dX6_hasRankBelow_3 : decode cX6_hasRankBelow 3 = .ok (.bipush 12, 2) := by decide +kernel
theorem dX6_hasRankBelow_5 : decode cX6_hasRankBelow 5 = .ok (.if_icmp .ge 34, 3) := by decide +kernel
theorem dX6_hasRankBelow_8 : decode cX6_hasRankBelow 8 = .ok (.iload_n 1, 1) := by decide +kernel
theorem dX6_hasRankBelow_9 : decode cX6_hasRankBelow 9 = .ok (.iload_n 3, 1) := by decide +kernel
theorem dX6_hasRankBelow_10 : decode cX6_hasRankBelow 10 = .ok (.invokestatic 226, 3) := by decide +kernel
theorem dX6_hasRankBelow_13 : decode cX6_hasRankBelow 13 = .ok (.ifCond .eq 20, 3) := by decide +kernel
theorem dX6_hasRankBelow_16 : decode cX6_hasRankBelow 16 = .ok (.aload_n 0, 1) := by decide +kernel
theorem dX6_hasRankBelow_17 : decode cX6_hasRankBelow 17 = .ok (.iload_n 3, 1) := by decide +kernel
theorem dX6_hasRankBelow_18 : decode cX6_hasRankBelow 18 = .ok (.invokevirtual 67, 3) := by decide +kernel
theorem dX6_hasRankBelow_21 : decode cX6_hasRankBelow 21 = .ok (.getfield 73, 3) := by decide +kernel
theorem dX6_hasRankBelow_24 : decode cX6_hasRankBelow 24 = .ok (.getfield 110, 3) := by decide +kernel
theorem dX6_hasRankBelow_27 : decode cX6_hasRankBelow 27 = .ok (.iload_n 2, 1) := by decide +kernel
theorem dX6_hasRankBelow_28 : decode cX6_hasRankBelow 28 = .ok (.if_icmp .ge 5, 3) := by decide +kernel
theorem dX6_hasRankBelow_31 : decode cX6_hasRankBelow 31 = .ok (.iconst 1, 1) := by decide +kernel
theorem dX6_hasRankBelow_32 : decode cX6_hasRankBelow 32 = .ok (.ireturn, 1) := by decide +kernel
theorem dX6_hasRankBelow_33 : decode cX6_hasRankBelow 33 = .ok (.iinc 3 1, 3) := by decide +kernel
theorem dX6_hasRankBelow_36 : decode cX6_hasRankBelow 36 = .ok (.goto (-34), 3) := by decide +kernel
theorem dX6_hasRankBelow_39 : decode cX6_hasRankBelow 39 = .ok (.iconst 0, 1) := by decide +kernel
theorem dX6_hasRankBelow_40 : decode cX6_hasRankBelow 40 = .ok (.ireturn, 1) := by decide +kernel
theorem dX6_settle_0 : decode cX6_settle 0 = .ok (.aload_n 0, 1) := by decide +kernel
theorem dX6_settle_1 : decode cX6_settle 1 = .ok (.getfield 23, 3) := by decide +kernel
theorem dX6_settle_4 : decode cX6_settle 4 = .ok (.astore_n 1, 1) := by decide +kernel
theorem dX6_settle_5 : decode cX6_settle 5 = .ok (.aload_n 0, 1) := by decide +kernel
theorem dX6_settle_6 : decode cX6_settle 6 = .ok (.aload_n 0, 1) := by decide +kernel
theorem dX6_settle_7 : decode cX6_settle 7 = .ok (.getfield 27, 3) := by decide +kernel
theorem dX6_settle_10 : decode cX6_settle 10 = .ok (.putfield 23, 3) := by decide +kernel
theorem dX6_settle_13 : decode cX6_settle 13 = .ok (.aload_n 0, 1) := by decide +kernel
theorem dX6_settle_14 : decode cX6_settle 14 = .ok (.aload_n 1, 1) := by decide +kernel
theorem dX6_settle_15 : decode cX6_settle 15 = .ok (.putfield 27, 3) := by decide +kernel
theorem dX6_settle_18 : decode cX6_settle 18 = .ok (.iconst 0, 1) := by decide +kernel
theorem dX6_settle_19 : decode cX6_settle 19 = .ok (.istore_n 2, 1) := by decide +kernel
theorem dX6_settle_20 : decode cX6_settle 20 = .ok (.iload_n 2, 1) := by decide +kernel
theorem dX6_settle_21 : decode cX6_settle 21 = .ok (.iconst 5, 1) := by decide +kernel
theorem dX6_settle_22 : decode cX6_settle 22 = .ok (.if_icmp .gt 40, 3) := by decide +kernel
theorem dX6_settle_25 : decode cX6_settle 25 = .ok (.iconst 0, 1) := by decide +kernel
theorem dX6_settle_26 : decode cX6_settle 26 = .ok (.istore_n 3, 1) := by decide +kernel
theorem dX6_settle_27 : decode cX6_settle 27 = .ok (.iload_n 3, 1) := by decide +kernel
theorem dX6_settle_28 : decode cX6_settle 28 = .ok (.bipush 12, 2) := by decide +kernel
theorem dX6_settle_30 : decode cX6_settle 30 = .ok (.if_icmp .ge 26, 3) := by decide +kernel
theorem dX6_settle_33 : decode cX6_settle 33 = .ok (.aload_n 0, 1) := by decide +kernel
theorem dX6_settle_34 : decode cX6_settle 34 = .ok (.getfield 23, 3) := by decide +kernel
theorem dX6_settle_37 : decode cX6_settle 37 = .ok (.iload_n 3, 1) := by decide +kernel
theorem dX6_settle_38 : decode cX6_settle 38 = .ok (.invokevirtual 245, 3) := by decide +kernel
theorem dX6_settle_41 : decode cX6_settle 41 = .ok (.iload_n 2, 1) := by decide +kernel
theorem dX6_settle_42 : decode cX6_settle 42 = .ok (.if_icmp .ne 8, 3) := by decide +kernel
theorem dX6_settle_45 : decode cX6_settle 45 = .ok (.aload_n 0, 1) := by decide +kernel
theorem dX6_settle_46 : decode cX6_settle 46 = .ok (.iload_n 3, 1) := by decide +kernel
theorem dX6_settle_47 : decode cX6_settle 47 = .ok (.invokevirtual 248, 3) := by decide +kernel
theorem dX6_settle_50 : decode cX6_settle 50 = .ok (.iinc 3 1, 3) := by decide +kernel
theorem dX6_settle_53 : decode cX6_settle 53 = .ok (.goto (-26), 3) := by decide +kernel
theorem dX6_settle_56 : decode cX6_settle 56 = .ok (.iinc 2 1, 3) := by decide +kernel
theorem dX6_settle_59 : decode cX6_settle 59 = .ok (.goto (-39), 3) := by decide +kernel
theorem dX6_settle_62 : decode cX6_settle 62 = .ok (.return_, 1) := by decide +kernel
theorem dX6_forceOn_0 : decode cX6_forceOn 0 = .ok (.aload_n 0, 1) := by decide +kernel
theorem dX6_forceOn_1 : decode cX6_forceOn 1 = .ok (.iload_n 1, 1) := by decide +kernel
theorem dX6_forceOn_2 : decode cX6_forceOn 2 = .ok (.invokevirtual 67, 3) := by decide +kernel
theorem dX6_forceOn_5 : decode cX6_forceOn 5 = .ok (.getfield 116, 3) := by decide +kernel
theorem dX6_forceOn_8 : decode cX6_forceOn 8 = .ok (.istore_n 2, 1) := by decide +kernel
theorem dX6_forceOn_9 : decode cX6_forceOn 9 = .ok (.iconst 0, 1) := by decide +kernel
theorem dX6_forceOn_10 : decode cX6_forceOn 10 = .ok (.istore_n 3, 1) := by decide +kernel
theorem dX6_forceOn_11 : decode cX6_forceOn 11 = .ok (.iload_n 3, 1) := by decide +kernel
theorem dX6_forceOn_12 : decode cX6_forceOn 12 = .ok (.bipush 12, 2) := by decide +kernel
theorem dX6_forceOn_14 : decode cX6_forceOn 14 = .ok (.if_icmp .ge 37, 3) := by decide +kernel
theorem dX6_forceOn_17 : decode cX6_forceOn 17 = .ok (.aload_n 0, 1) := by decide +kernel
theorem dX6_forceOn_18 : decode cX6_forceOn 18 = .ok (.getfield 23, 3) := by decide +kernel
theorem dX6_forceOn_21 : decode cX6_forceOn 21 = .ok (.iload_n 3, 1) := by decide +kernel
theorem dX6_forceOn_22 : decode cX6_forceOn 22 = .ok (.invokevirtual 123, 3) := by decide +kernel
theorem dX6_forceOn_25 : decode cX6_forceOn 25 = .ok (.iload_n 1, 1) := by decide +kernel
theorem dX6_forceOn_26 : decode cX6_forceOn 26 = .ok (.invokestatic 226, 3) := by decide +kernel
theorem dX6_forceOn_29 : decode cX6_forceOn 29 = .ok (.ifCond .eq 16, 3) := by decide +kernel
theorem dX6_forceOn_32 : decode cX6_forceOn 32 = .ok (.iload_n 2, 1) := by decide +kernel
theorem dX6_forceOn_33 : decode cX6_forceOn 33 = .ok (.aload_n 0, 1) := by decide +kernel
theorem dX6_forceOn_34 : decode cX6_forceOn 34 = .ok (.iload_n 3, 1) := by decide +kernel
theorem dX6_forceOn_35 : decode cX6_forceOn 35 = .ok (.invokevirtual 67, 3) := by decide +kernel
theorem dX6_forceOn_38 : decode cX6_forceOn 38 = .ok (.getfield 116, 3) := by decide +kernel
theorem dX6_forceOn_41 : decode cX6_forceOn 41 = .ok (.invokestatic 251, 3) := by decide +kernel
theorem dX6_forceOn_44 : decode cX6_forceOn 44 = .ok (.istore_n 2, 1) := by decide +kernel
theorem dX6_forceOn_45 : decode cX6_forceOn 45 = .ok (.iinc 3 1, 3) := by decide +kernel
theorem dX6_forceOn_48 : decode cX6_forceOn 48 = .ok (.goto (-37), 3) := by decide +kernel
theorem dX6_forceOn_51 : decode cX6_forceOn 51 = .ok (.iload_n 2, 1) := by decide +kernel
theorem dX6_forceOn_52 : decode cX6_forceOn 52 = .ok (.ireturn, 1) := by decide +kernel
theorem dX6_spreadPage_0 : decode cX6_spreadPage 0 = .ok (.aload_n 0, 1) := by decide +kernel
theorem dX6_spreadPage_1 : decode cX6_spreadPage 1 = .ok (.iload_n 1, 1) := by decide +kernel
theorem dX6_spreadPage_2 : decode cX6_spreadPage 2 = .ok (.invokevirtual 67, 3) := by decide +kernel
theorem dX6_spreadPage_5 : decode cX6_spreadPage 5 = .ok (.astore_n 2, 1) := by decide +kernel
theorem dX6_spreadPage_6 : decode cX6_spreadPage 6 = .ok (.aload_n 2, 1) := by decide +kernel
theorem dX6_spreadPage_7 : decode cX6_spreadPage 7 = .ok (.getfield 73, 3) := by decide +kernel
theorem dX6_spreadPage_10 : decode cX6_spreadPage 10 = .ok (.getfield 113, 3) := by decide +kernel
theorem dX6_spreadPage_13 : decode cX6_spreadPage 13 = .ok (.astore_n 3, 1) := by decide +kernel
theorem dX6_spreadPage_14 : decode cX6_spreadPage 14 = .ok (.aload_n 2, 1) := by decide +kernel
theorem dX6_spreadPage_15 : decode cX6_spreadPage 15 = .ok (.getfield 129, 3) := by decide +kernel
theorem dX6_spreadPage_18 : decode cX6_spreadPage 18 = .ok (.astore 4, 2) := by decide +kernel
theorem dX6_spreadPage_20 : decode cX6_spreadPage 20 = .ok (.aload 4, 2) := by decide +kernel
theorem dX6_spreadPage_22 : decode cX6_spreadPage 22 = .ok (.invokevirtual 256, 3) := by decide +kernel
theorem dX6_spreadPage_25 : decode cX6_spreadPage 25 = .ok (.iconst 0, 1) := by decide +kernel
theorem dX6_spreadPage_26 : decode cX6_spreadPage 26 = .ok (.istore 5, 2) := by decide +kernel
theorem dX6_spreadPage_28 : decode cX6_spreadPage 28 = .ok (.iload 5, 2) := by decide +kernel
theorem dX6_spreadPage_30 : decode cX6_spreadPage 30 = .ok (.aload_n 3, 1) := by decide +kernel
theorem dX6_spreadPage_31 : decode cX6_spreadPage 31 = .ok (.getfield 208, 3) := by decide +kernel
theorem dX6_spreadPage_34 : decode cX6_spreadPage 34 = .ok (.if_icmp .ge 19, 3) := by decide +kernel
theorem dX6_spreadPage_37 : decode cX6_spreadPage 37 = .ok (.aload_n 0, 1) := by decide +kernel
theorem dX6_spreadPage_38 : decode cX6_spreadPage 38 = .ok (.aload 4, 2) := by decide +kernel
theorem dX6_spreadPage_40 : decode cX6_spreadPage 40 = .ok (.aload_n 3, 1) := by decide +kernel
theorem dX6_spreadPage_41 : decode cX6_spreadPage 41 = .ok (.iload 5, 2) := by decide +kernel
theorem dX6_spreadPage_43 : decode cX6_spreadPage 43 = .ok (.iload_n 1, 1) := by decide +kernel
theorem dX6_spreadPage_44 : decode cX6_spreadPage 44 = .ok (.invokevirtual 257, 3) := by decide +kernel
theorem dX6_spreadPage_47 : decode cX6_spreadPage 47 = .ok (.iinc 5 1, 3) := by decide +kernel
theorem dX6_spreadPage_50 : decode cX6_spreadPage 50 = .ok (.goto (-22), 3) := by decide +kernel
theorem dX6_spreadPage_53 : decode cX6_spreadPage 53 = .ok (.return_, 1) := by decide +kernel
theorem dX6_spreadPiece_0 : decode cX6_spreadPiece 0 = .ok (.aload_n 2, 1) := by decide +kernel
theorem dX6_spreadPiece_1 : decode cX6_spreadPiece 1 = .ok (.iload_n 3, 1) := by decide +kernel
theorem dX6_spreadPiece_2 : decode cX6_spreadPiece 2 = .ok (.invokevirtual 261, 3) := by decide +kernel
theorem dX6_spreadPiece_5 : decode cX6_spreadPiece 5 = .ok (.istore 5, 2) := by decide +kernel
theorem dX6_spreadPiece_7 : decode cX6_spreadPiece 7 = .ok (.iload 5, 2) := by decide +kernel
theorem dX6_spreadPiece_9 : decode cX6_spreadPiece 9 = .ok (.tableswitch 129 0 7 #[109, 109, 109, 109, 66, 90, 47, 59], 47) := by decide +kernel
theorem dX6_spreadPiece_56 : decode cX6_spreadPiece 56 = .ok (.aload_n 1, 1) := by decide +kernel
theorem dX6_spreadPiece_57 : decode cX6_spreadPiece 57 = .ok (.aload_n 2, 1) := by decide +kernel
theorem dX6_spreadPiece_58 : decode cX6_spreadPiece 58 = .ok (.iload_n 3, 1) := by decide +kernel
theorem dX6_spreadPiece_59 : decode cX6_spreadPiece 59 = .ok (.invokevirtual 264, 3) := by decide +kernel
theorem dX6_spreadPiece_62 : decode cX6_spreadPiece 62 = .ok (.invokevirtual 267, 3) := by decide +kernel
theorem dX6_spreadPiece_65 : decode cX6_spreadPiece 65 = .ok (.goto 73, 3) := by decide +kernel
theorem dX6_spreadPiece_68 : decode cX6_spreadPiece 68 = .ok (.aload_n 1, 1) := by decide +kernel
theorem dX6_spreadPiece_69 : decode cX6_spreadPiece 69 = .ok (.invokevirtual 270, 3) := by decide +kernel
theorem dX6_spreadPiece_72 : decode cX6_spreadPiece 72 = .ok (.goto 66, 3) := by decide +kernel
theorem dX6_spreadPiece_75 : decode cX6_spreadPiece 75 = .ok (.aload_n 1, 1) := by decide +kernel
theorem dX6_spreadPiece_76 : decode cX6_spreadPiece 76 = .ok (.aload_n 0, 1) := by decide +kernel
theorem dX6_spreadPiece_77 : decode cX6_spreadPiece 77 = .ok (.aload_n 2, 1) := by decide +kernel
theorem dX6_spreadPiece_78 : decode cX6_spreadPiece 78 = .ok (.iload_n 3, 1) := by decide +kernel
theorem dX6_spreadPiece_79 : decode cX6_spreadPiece 79 = .ok (.invokevirtual 273, 3) := by decide +kernel
theorem dX6_spreadPiece_82 : decode cX6_spreadPiece 82 = .ok (.invokevirtual 67, 3) := by decide +kernel
theorem dX6_spreadPiece_85 : decode cX6_spreadPiece 85 = .ok (.getfield 129, 3) := by decide +kernel
theorem dX6_spreadPiece_88 : decode cX6_spreadPiece 88 = .ok (.aload_n 2, 1) := by decide +kernel
theorem dX6_spreadPiece_89 : decode cX6_spreadPiece 89 = .ok (.iload_n 3, 1) := by decide +kernel
theorem dX6_spreadPiece_90 : decode cX6_spreadPiece 90 = .ok (.invokevirtual 264, 3) := by decide +kernel
theorem dX6_spreadPiece_93 : decode cX6_spreadPiece 93 = .ok (.invokevirtual 276, 3) := by decide +kernel
theorem dX6_spreadPiece_96 : decode cX6_spreadPiece 96 = .ok (.goto 42, 3) := by decide +kernel
theorem dX6_spreadPiece_99 : decode cX6_spreadPiece 99 = .ok (.aload_n 1, 1) := by decide +kernel
theorem dX6_spreadPiece_100 : decode cX6_spreadPiece 100 = .ok (.aload_n 0, 1) := by decide +kernel
theorem dX6_spreadPiece_101 : decode cX6_spreadPiece 101 = .ok (.aload_n 2, 1) := by decide +kernel
theorem dX6_spreadPiece_102 : decode cX6_spreadPiece 102 = .ok (.iload_n 3, 1) := by decide +kernel
theorem dX6_spreadPiece_103 : decode cX6_spreadPiece 103 = .ok (.invokevirtual 273, 3) := by decide +kernel
theorem dX6_spreadPiece_106 : decode cX6_spreadPiece 106 = .ok (.invokevirtual 67, 3) := by decide +kernel
theorem dX6_spreadPiece_109 : decode cX6_spreadPiece 109 = .ok (.getfield 129, 3) := by decide +kernel
theorem dX6_spreadPiece_112 : decode cX6_spreadPiece 112 = .ok (.invokevirtual 280, 3) := by decide +kernel
theorem dX6_spreadPiece_115 : decode cX6_spreadPiece 115 = .ok (.goto 23, 3) := by decide +kernel
theorem dX6_spreadPiece_118 : decode cX6_spreadPiece 118 = .ok (.aload_n 1, 1) := by decide +kernel
theorem dX6_spreadPiece_119 : decode cX6_spreadPiece 119 = .ok (.aload_n 1, 1) := by decide +kernel
theorem dX6_spreadPiece_120 : decode cX6_spreadPiece 120 = .ok (.invokevirtual 284, 3) := by decide +kernel
theorem dX6_spreadPiece_123 : decode cX6_spreadPiece 123 = .ok (.iload 5, 2) := by decide +kernel
theorem dX6_spreadPiece_125 : decode cX6_spreadPiece 125 = .ok (.aload_n 2, 1) := by decide +kernel
theorem dX6_spreadPiece_126 : decode cX6_spreadPiece 126 = .ok (.iload_n 3, 1) := by decide +kernel
theorem dX6_spreadPiece_127 : decode cX6_spreadPiece 127 = .ok (.invokevirtual 287, 3) := by decide +kernel
theorem dX6_spreadPiece_130 : decode cX6_spreadPiece 130 = .ok (.iload 4, 2) := by decide +kernel
theorem dX6_spreadPiece_132 : decode cX6_spreadPiece 132 = .ok (.invokevirtual 290, 3) := by decide +kernel
theorem dX6_spreadPiece_135 : decode cX6_spreadPiece 135 = .ok (.goto 3, 3) := by decide +kernel
theorem dX6_spreadPiece_138 : decode cX6_spreadPiece 138 = .ok (.return_, 1) := by decide +kernel
theorem dX6_behindRedirects_0 : decode cX6_behindRedirects 0 = .ok (.iload_n 1, 1) := by decide +kernel
theorem dX6_behindRedirects_1 : decode cX6_behindRedirects 1 = .ok (.istore_n 2, 1) := by decide +kernel
theorem dX6_behindRedirects_2 : decode cX6_behindRedirects 2 = .ok (.iconst 0, 1) := by decide +kernel
theorem dX6_behindRedirects_3 : decode cX6_behindRedirects 3 = .ok (.istore_n 3, 1) := by decide +kernel
theorem dX6_behindRedirects_4 : decode cX6_behindRedirects 4 = .ok (.iload_n 3, 1) := by decide +kernel
theorem dX6_behindRedirects_5 : decode cX6_behindRedirects 5 = .ok (.iconst 3, 1) := by decide +kernel
theorem dX6_behindRedirects_6 : decode cX6_behindRedirects 6 = .ok (.if_icmp .gt 39, 3) := by decide +kernel
theorem dX6_behindRedirects_9 : decode cX6_behindRedirects 9 = .ok (.aload_n 0, 1) := by decide +kernel
theorem dX6_behindRedirects_10 : decode cX6_behindRedirects 10 = .ok (.iload_n 2, 1) := by decide +kernel
theorem dX6_behindRedirects_11 : decode cX6_behindRedirects 11 = .ok (.invokevirtual 67, 3) := by decide +kernel
theorem dX6_behindRedirects_14 : decode cX6_behindRedirects 14 = .ok (.getfield 73, 3) := by decide +kernel
theorem dX6_behindRedirects_17 : decode cX6_behindRedirects 17 = .ok (.getfield 113, 3) := by decide +kernel
theorem dX6_behindRedirects_20 : decode cX6_behindRedirects 20 = .ok (.astore 4, 2) := by decide +kernel
theorem dX6_behindRedirects_22 : decode cX6_behindRedirects 22 = .ok (.aload 4, 2) := by decide +kernel
theorem dX6_behindRedirects_24 : decode cX6_behindRedirects 24 = .ok (.invokevirtual 303, 3) := by decide +kernel
theorem dX6_behindRedirects_27 : decode cX6_behindRedirects 27 = .ok (.ifCond .ne 5, 3) := by decide +kernel
theorem dX6_behindRedirects_30 : decode cX6_behindRedirects 30 = .ok (.iload_n 2, 1) := by decide +kernel
theorem dX6_behindRedirects_31 : decode cX6_behindRedirects 31 = .ok (.ireturn, 1) := by decide +kernel
theorem dX6_behindRedirects_32 : decode cX6_behindRedirects 32 = .ok (.aload 4, 2) := by decide +kernel
theorem dX6_behindRedirects_34 : decode cX6_behindRedirects 34 = .ok (.iconst 0, 1) := by decide +kernel
theorem dX6_behindRedirects_35 : decode cX6_behindRedirects 35 = .ok (.invokevirtual 273, 3) := by decide +kernel
theorem dX6_behindRedirects_38 : decode cX6_behindRedirects 38 = .ok (.istore_n 2, 1) := by decide +kernel
theorem dX6_behindRedirects_39 : decode cX6_behindRedirects 39 = .ok (.iinc 3 1, 3) := by decide +kernel
theorem dX6_behindRedirects_42 : decode cX6_behindRedirects 42 = .ok (.goto (-38), 3) := by decide +kernel
theorem dX6_behindRedirects_45 : decode cX6_behindRedirects 45 = .ok (.iconst (-1), 1) := by decide +kernel
theorem dX6_behindRedirects_46 : decode cX6_behindRedirects 46 = .ok (.ireturn, 1) := by decide +kernel
theorem dX6_isBroken_0 : decode cX6_isBroken 0 = .ok (.aload_n 1, 1) := by decide +kernel
theorem dX6_isBroken_1 : decode cX6_isBroken 1 = .ok (.iload_n 2, 1) := by decide +kernel
theorem dX6_isBroken_2 : decode cX6_isBroken 2 = .ok (.iconst 2, 1) := by decide +kernel
theorem dX6_isBroken_3 : decode cX6_isBroken 3 = .ok (.invokevirtual 174, 3) := by decide +kernel
theorem dX6_isBroken_6 : decode cX6_isBroken 6 = .ok (.ifCond .eq 20, 3) := by decide +kernel
theorem dX6_isBroken_9 : decode cX6_isBroken 9 = .ok (.aload_n 0, 1) := by decide +kernel
theorem dX6_isBroken_10 : decode cX6_isBroken 10 = .ok (.aload_n 1, 1) := by decide +kernel
theorem dX6_isBroken_11 : decode cX6_isBroken 11 = .ok (.iload_n 2, 1) := by decide +kernel
theorem dX6_isBroken_12 : decode cX6_isBroken 12 = .ok (.iconst (-1), 1) := by decide +kernel
theorem dX6_isBroken_13 : decode cX6_isBroken 13 = .ok (.invokevirtual 145, 3) := by decide +kernel
theorem dX6_isBroken_16 : decode cX6_isBroken 16 = .ok (.invokevirtual 306, 3) := by decide +kernel
theorem dX6_isBroken_19 : decode cX6_isBroken 19 = .ok (.ifCond .ne 7, 3) := by decide +kernel
theorem dX6_isBroken_22 : decode cX6_isBroken 22 = .ok (.iconst 1, 1) := by decide +kernel
theorem dX6_isBroken_23 : decode cX6_isBroken 23 = .ok (.goto 4, 3) := by decide +kernel
theorem dX6_isBroken_26 : decode cX6_isBroken 26 = .ok (.iconst 0, 1) := by decide +kernel
theorem dX6_isBroken_27 : decode cX6_isBroken 27 = .ok (.ireturn, 1) := by decide +kernel
theorem dX6_isGood_0 : decode cX6_isGood 0 = .ok (.aload_n 0, 1) := by decide +kernel
theorem dX6_isGood_1 : decode cX6_isGood 1 = .ok (.iload_n 1, 1) := by decide +kernel
theorem dX6_isGood_2 : decode cX6_isGood 2 = .ok (.bipush 10, 2) := by decide +kernel
theorem dX6_isGood_4 : decode cX6_isGood 4 = .ok (.idiv, 1) := by decide +kernel
theorem dX6_isGood_5 : decode cX6_isGood 5 = .ok (.invokevirtual 168, 3) := by decide +kernel
theorem dX6_isGood_8 : decode cX6_isGood 8 = .ok (.istore_n 2, 1) := by decide +kernel
theorem dX6_isGood_9 : decode cX6_isGood 9 = .ok (.iload_n 2, 1) := by decide +kernel
theorem dX6_isGood_10 : decode cX6_isGood 10 = .ok (.iconst (-1), 1) := by decide +kernel
theorem dX6_isGood_11 : decode cX6_isGood 11 = .ok (.if_icmp .eq 25, 3) := by decide +kernel
theorem dX6_isGood_14 : decode cX6_isGood 14 = .ok (.aload_n 0, 1) := by decide +kernel
theorem dX6_isGood_15 : decode cX6_isGood 15 = .ok (.iload_n 2, 1) := by decide +kernel
theorem dX6_isGood_16 : decode cX6_isGood 16 = .ok (.invokevirtual 67, 3) := by decide +kernel
theorem dX6_isGood_19 : decode cX6_isGood 19 = .ok (.getfield 129, 3) := by decide +kernel
theorem dX6_isGood_22 : decode cX6_isGood 22 = .ok (.iload_n 1, 1) := by decide +kernel
theorem dX6_isGood_23 : decode cX6_isGood 23 = .ok (.bipush 10, 2) := by decide +kernel
theorem dX6_isGood_25 : decode cX6_isGood 25 = .ok (.irem, 1) := by decide +kernel
theorem dX6_isGood_26 : decode cX6_isGood 26 = .ok (.invokevirtual 310, 3) := by decide +kernel
theorem dX6_isGood_29 : decode cX6_isGood 29 = .ok (.ifCond .eq 7, 3) := by decide +kernel
theorem dX6_isGood_32 : decode cX6_isGood 32 = .ok (.iconst 1, 1) := by decide +kernel
theorem dX6_isGood_33 : decode cX6_isGood 33 = .ok (.goto 4, 3) := by decide +kernel
theorem dX6_isGood_36 : decode cX6_isGood 36 = .ok (.iconst 0, 1) := by decide +kernel
theorem dX6_isGood_37 : decode cX6_isGood 37 = .ok (.ireturn, 1) := by decide +kernel
theorem dX6_hasGoodLink_0 : decode cX6_hasGoodLink 0 = .ok (.aload_n 0, 1) := by decide +kernel
theorem dX6_hasGoodLink_1 : decode cX6_hasGoodLink 1 = .ok (.iload_n 1, 1) := by decide +kernel
theorem dX6_hasGoodLink_2 : decode cX6_hasGoodLink 2 = .ok (.invokevirtual 67, 3) := by decide +kernel
theorem dX6_hasGoodLink_5 : decode cX6_hasGoodLink 5 = .ok (.getfield 129, 3) := by decide +kernel
theorem dX6_hasGoodLink_8 : decode cX6_hasGoodLink 8 = .ok (.astore_n 3, 1) := by decide +kernel
theorem dX6_hasGoodLink_9 : decode cX6_hasGoodLink 9 = .ok (.iconst 0, 1) := by decide +kernel
theorem dX6_hasGoodLink_10 : decode cX6_hasGoodLink 10 = .ok (.istore 4, 2) := by decide +kernel
theorem dX6_hasGoodLink_12 : decode cX6_hasGoodLink 12 = .ok (.iload 4, 2) := by decide +kernel
theorem dX6_hasGoodLink_14 : decode cX6_hasGoodLink 14 = .ok (.aload_n 3, 1) := by decide +kernel
theorem dX6_hasGoodLink_15 : decode cX6_hasGoodLink 15 = .ok (.getfield 171, 3) := by decide +kernel
theorem dX6_hasGoodLink_18 : decode cX6_hasGoodLink 18 = .ok (.if_icmp .ge 49, 3) := by decide +kernel
theorem dX6_hasGoodLink_21 : decode cX6_hasGoodLink 21 = .ok (.aload_n 3, 1) := by decide +kernel
theorem dX6_hasGoodLink_22 : decode cX6_hasGoodLink 22 = .ok (.iload 4, 2) := by decide +kernel
theorem dX6_hasGoodLink_24 : decode cX6_hasGoodLink 24 = .ok (.iconst (-1), 1) := by decide +kernel
theorem dX6_hasGoodLink_25 : decode cX6_hasGoodLink 25 = .ok (.invokevirtual 145, 3) := by decide +kernel
theorem dX6_hasGoodLink_28 : decode cX6_hasGoodLink 28 = .ok (.istore 5, 2) := by decide +kernel
theorem dX6_hasGoodLink_30 : decode cX6_hasGoodLink 30 = .ok (.aload_n 3, 1) := by decide +kernel
theorem dX6_hasGoodLink_31 : decode cX6_hasGoodLink 31 = .ok (.iload 4, 2) := by decide +kernel
theorem dX6_hasGoodLink_33 : decode cX6_hasGoodLink 33 = .ok (.iconst 2, 1) := by decide +kernel
theorem dX6_hasGoodLink_34 : decode cX6_hasGoodLink 34 = .ok (.invokevirtual 174, 3) := by decide +kernel
theorem dX6_hasGoodLink_37 : decode cX6_hasGoodLink 37 = .ok (.ifCond .eq 24, 3) := by decide +kernel
theorem dX6_hasGoodLink_40 : decode cX6_hasGoodLink 40 = .ok (.aload_n 0, 1) := by decide +kernel
theorem dX6_hasGoodLink_41 : decode cX6_hasGoodLink 41 = .ok (.iload 5, 2) := by decide +kernel
theorem dX6_hasGoodLink_43 : decode cX6_hasGoodLink 43 = .ok (.iload_n 2, 1) := by decide +kernel
theorem dX6_hasGoodLink_44 : decode cX6_hasGoodLink 44 = .ok (.invokevirtual 313, 3) := by decide +kernel
theorem dX6_hasGoodLink_47 : decode cX6_hasGoodLink 47 = .ok (.ifCond .eq 14, 3) := by decide +kernel
theorem dX6_hasGoodLink_50 : decode cX6_hasGoodLink 50 = .ok (.aload_n 0, 1) := by decide +kernel
theorem dX6_hasGoodLink_51 : decode cX6_hasGoodLink 51 = .ok (.iload 5, 2) := by decide +kernel
theorem dX6_hasGoodLink_53 : decode cX6_hasGoodLink 53 = .ok (.invokevirtual 306, 3) := by decide +kernel
theorem dX6_hasGoodLink_56 : decode cX6_hasGoodLink 56 = .ok (.ifCond .eq 5, 3) := by decide +kernel
theorem dX6_hasGoodLink_59 : decode cX6_hasGoodLink 59 = .ok (.iconst 1, 1) := by decide +kernel
theorem dX6_hasGoodLink_60 : decode cX6_hasGoodLink 60 = .ok (.ireturn, 1) := by decide +kernel
theorem dX6_hasGoodLink_61 : decode cX6_hasGoodLink 61 = .ok (.iinc 4 1, 3) := by decide +kernel
theorem dX6_hasGoodLink_64 : decode cX6_hasGoodLink 64 = .ok (.goto (-52), 3) := by decide +kernel
theorem dX6_hasGoodLink_67 : decode cX6_hasGoodLink 67 = .ok (.iconst 0, 1) := by decide +kernel
theorem dX6_hasGoodLink_68 : decode cX6_hasGoodLink 68 = .ok (.ireturn, 1) := by decide +kernel
theorem dX6_leadsTo_0 : decode cX6_leadsTo 0 = .ok (.iload_n 1, 1) := by decide +kernel
theorem dX6_leadsTo_1 : decode cX6_leadsTo 1 = .ok (.bipush 10, 2) := by decide +kernel
theorem dX6_leadsTo_3 : decode cX6_leadsTo 3 = .ok (.idiv, 1) := by decide +kernel
theorem dX6_leadsTo_4 : decode cX6_leadsTo 4 = .ok (.istore_n 3, 1) := by decide +kernel
theorem dX6_leadsTo_5 : decode cX6_leadsTo 5 = .ok (.iload_n 3, 1) := by decide +kernel
theorem dX6_leadsTo_6 : decode cX6_leadsTo 6 = .ok (.iload_n 2, 1) := by decide +kernel
theorem dX6_leadsTo_7 : decode cX6_leadsTo 7 = .ok (.if_icmp .eq 12, 3) := by decide +kernel
theorem dX6_leadsTo_10 : decode cX6_leadsTo 10 = .ok (.aload_n 0, 1) := by decide +kernel
theorem dX6_leadsTo_11 : decode cX6_leadsTo 11 = .ok (.iload_n 3, 1) := by decide +kernel
theorem dX6_leadsTo_12 : decode cX6_leadsTo 12 = .ok (.invokevirtual 168, 3) := by decide +kernel
theorem dX6_leadsTo_15 : decode cX6_leadsTo 15 = .ok (.iload_n 2, 1) := by decide +kernel
theorem dX6_leadsTo_16 : decode cX6_leadsTo 16 = .ok (.if_icmp .ne 7, 3) := by decide +kernel
theorem dX6_leadsTo_19 : decode cX6_leadsTo 19 = .ok (.iconst 1, 1) := by decide +kernel
theorem dX6_leadsTo_20 : decode cX6_leadsTo 20 = .ok (.goto 4, 3) := by decide +kernel
theorem dX6_leadsTo_23 : decode cX6_leadsTo 23 = .ok (.iconst 0, 1) := by decide +kernel
theorem dX6_leadsTo_24 : decode cX6_leadsTo 24 = .ok (.ireturn, 1) := by decide +kernel
theorem dX6_countBreaches_0 : decode cX6_countBreaches 0 = .ok (.aload_n 1, 1) := by decide +kernel
theorem dX6_countBreaches_1 : decode cX6_countBreaches 1 = .ok (.getfield 129, 3) := by decide +kernel
theorem dX6_countBreaches_4 : decode cX6_countBreaches 4 = .ok (.astore_n 2, 1) := by decide +kernel
theorem dX6_countBreaches_5 : decode cX6_countBreaches 5 = .ok (.iconst 0, 1) := by decide +kernel
theorem dX6_countBreaches_6 : decode cX6_countBreaches 6 = .ok (.istore_n 3, 1) := by decide +kernel
theorem dX6_countBreaches_7 : decode cX6_countBreaches 7 = .ok (.iconst 0, 1) := by decide +kernel
theorem dX6_countBreaches_8 : decode cX6_countBreaches 8 = .ok (.istore 4, 2) := by decide +kernel
theorem dX6_countBreaches_10 : decode cX6_countBreaches 10 = .ok (.iload 4, 2) := by decide +kernel
theorem dX6_countBreaches_12 : decode cX6_countBreaches 12 = .ok (.aload_n 2, 1) := by decide +kernel
theorem dX6_countBreaches_13 : decode cX6_countBreaches 13 = .ok (.getfield 171, 3) := by decide +kernel
theorem dX6_countBreaches_16 : decode cX6_countBreaches 16 = .ok (.if_icmp .ge 45, 3) := by decide +kernel
theorem dX6_countBreaches_19 : decode cX6_countBreaches 19 = .ok (.aload_n 2, 1) := by decide +kernel
theorem dX6_countBreaches_20 : decode cX6_countBreaches 20 = .ok (.iload 4, 2) := by decide +kernel
theorem dX6_countBreaches_22 : decode cX6_countBreaches 22 = .ok (.iconst (-1), 1) := by decide +kernel
theorem dX6_countBreaches_23 : decode cX6_countBreaches 23 = .ok (.invokevirtual 316, 3) := by decide +kernel
theorem dX6_countBreaches_26 : decode cX6_countBreaches 26 = .ok (.ifCond .eq 29, 3) := by decide +kernel
theorem dX6_countBreaches_29 : decode cX6_countBreaches 29 = .ok (.aload_n 0, 1) := by decide +kernel
theorem dX6_countBreaches_30 : decode cX6_countBreaches 30 = .ok (.aload_n 2, 1) := by decide +kernel
theorem dX6_countBreaches_31 : decode cX6_countBreaches 31 = .ok (.iload 4, 2) := by decide +kernel
theorem dX6_countBreaches_33 : decode cX6_countBreaches 33 = .ok (.invokevirtual 165, 3) := by decide +kernel
theorem dX6_countBreaches_36 : decode cX6_countBreaches 36 = .ok (.invokevirtual 67, 3) := by decide +kernel
theorem dX6_countBreaches_39 : decode cX6_countBreaches 39 = .ok (.getfield 73, 3) := by decide +kernel
theorem dX6_countBreaches_42 : decode cX6_countBreaches 42 = .ok (.getfield 110, 3) := by decide +kernel
theorem dX6_countBreaches_45 : decode cX6_countBreaches 45 = .ok (.aload_n 1, 1) := by decide +kernel
theorem dX6_countBreaches_46 : decode cX6_countBreaches 46 = .ok (.getfield 116, 3) := by decide +kernel
theorem dX6_countBreaches_49 : decode cX6_countBreaches 49 = .ok (.if_icmp .ge 6, 3) := by decide +kernel
theorem dX6_countBreaches_52 : decode cX6_countBreaches 52 = .ok (.iinc 3 1, 3) := by decide +kernel
theorem dX6_countBreaches_55 : decode cX6_countBreaches 55 = .ok (.iinc 4 1, 3) := by decide +kernel
theorem dX6_countBreaches_58 : decode cX6_countBreaches 58 = .ok (.goto (-48), 3) := by decide +kernel
theorem dX6_countBreaches_61 : decode cX6_countBreaches 61 = .ok (.iload_n 3, 1) := by decide +kernel
theorem dX6_countBreaches_62 : decode cX6_countBreaches 62 = .ok (.ireturn, 1) := by decide +kernel
theorem dX6_at_0 : decode cX6_at 0 = .ok (.iload_n 1, 1) := by decide +kernel
theorem dX6_at_1 : decode cX6_at 1 = .ok (.ifCond .lt 15, 3) := by decide +kernel
theorem dX6_at_4 : decode cX6_at 4 = .ok (.iload_n 1, 1) := by decide +kernel
theorem dX6_at_5 : decode cX6_at 5 = .ok (.aload_n 0, 1) := by decide +kernel
theorem dX6_at_6 : decode cX6_at 6 = .ok (.arraylength, 1) := by decide +kernel
theorem dX6_at_7 : decode cX6_at 7 = .ok (.if_icmp .ge 9, 3) := by decide +kernel
theorem dX6_at_10 : decode cX6_at 10 = .ok (.aload_n 0, 1) := by decide +kernel
theorem dX6_at_11 : decode cX6_at 11 = .ok (.iload_n 1, 1) := by decide +kernel
theorem dX6_at_12 : decode cX6_at 12 = .ok (.iaload, 1) := by decide +kernel
theorem dX6_at_13 : decode cX6_at 13 = .ok (.goto 4, 3) := by decide +kernel
theorem dX6_at_16 : decode cX6_at 16 = .ok (.iconst 0, 1) := by decide +kernel
theorem dX6_at_17 : decode cX6_at 17 = .ok (.ireturn, 1) := by decide +kernel
theorem dX6_put_0 : decode cX6_put 0 = .ok (.iload_n 1, 1) := by decide +kernel
theorem dX6_put_1 : decode cX6_put 1 = .ok (.ifCond .lt 13, 3) := by decide +kernel
theorem dX6_put_4 : decode cX6_put 4 = .ok (.iload_n 1, 1) := by decide +kernel
theorem dX6_put_5 : decode cX6_put 5 = .ok (.aload_n 0, 1) := by decide +kernel
theorem dX6_put_6 : decode cX6_put 6 = .ok (.arraylength, 1) := by decide +kernel
theorem dX6_put_7 : decode cX6_put 7 = .ok (.if_icmp .ge 7, 3) := by decide +kernel
theorem dX6_put_10 : decode cX6_put 10 = .ok (.aload_n 0, 1) := by decide +kernel
theorem dX6_put_11 : decode cX6_put 11 = .ok (.iload_n 1, 1) := by decide +kernel
theorem dX6_put_12 : decode cX6_put 12 = .ok (.iload_n 2, 1) := by decide +kernel
theorem dX6_put_13 : decode cX6_put 13 = .ok (.iastore, 1) := by decide +kernel
theorem dX6_put_14 : decode cX6_put 14 = .ok (.return_, 1) := by decide +kernel
theorem dX6_greatest_0 : decode cX6_greatest 0 = .ok (.iconst 0, 1) := by decide +kernel
theorem dX6_greatest_1 : decode cX6_greatest 1 = .ok (.istore_n 1, 1) := by decide +kernel
theorem dX6_greatest_2 : decode cX6_greatest 2 = .ok (.iconst 0, 1) := by decide +kernel
theorem dX6_greatest_3 : decode cX6_greatest 3 = .ok (.istore_n 2, 1) := by decide +kernel
theorem dX6_greatest_4 : decode cX6_greatest 4 = .ok (.iload_n 2, 1) := by decide +kernel
theorem dX6_greatest_5 : decode cX6_greatest 5 = .ok (.aload_n 0, 1) := by decide +kernel
theorem dX6_greatest_6 : decode cX6_greatest 6 = .ok (.arraylength, 1) := by decide +kernel
theorem dX6_greatest_7 : decode cX6_greatest 7 = .ok (.if_icmp .ge 17, 3) := by decide +kernel
theorem dX6_greatest_10 : decode cX6_greatest 10 = .ok (.iload_n 1, 1) := by decide +kernel
theorem dX6_greatest_11 : decode cX6_greatest 11 = .ok (.aload_n 0, 1) := by decide +kernel
theorem dX6_greatest_12 : decode cX6_greatest 12 = .ok (.iload_n 2, 1) := by decide +kernel
theorem dX6_greatest_13 : decode cX6_greatest 13 = .ok (.iaload, 1) := by decide +kernel
theorem dX6_greatest_14 : decode cX6_greatest 14 = .ok (.invokestatic 251, 3) := by decide +kernel
theorem dX6_greatest_17 : decode cX6_greatest 17 = .ok (.istore_n 1, 1) := by decide +kernel
theorem dX6_greatest_18 : decode cX6_greatest 18 = .ok (.iinc 2 1, 3) := by decide +kernel
theorem dX6_greatest_21 : decode cX6_greatest 21 = .ok (.goto (-17), 3) := by decide +kernel
theorem dX6_greatest_24 : decode cX6_greatest 24 = .ok (.iload_n 1, 1) := by decide +kernel
theorem dX6_greatest_25 : decode cX6_greatest 25 = .ok (.ireturn, 1) := by decide +kernel
theorem dX6_contains_0 : decode cX6_contains 0 = .ok (.iload_n 0, 1) := by decide +kernel
theorem dX6_contains_1 : decode cX6_contains 1 = .ok (.iload_n 1, 1) := by decide +kernel
theorem dX6_contains_2 : decode cX6_contains 2 = .ok (.ishr, 1) := by decide +kernel
theorem dX6_contains_3 : decode cX6_contains 3 = .ok (.iconst 1, 1) := by decide +kernel
theorem dX6_contains_4 : decode cX6_contains 4 = .ok (.iand, 1) := by decide +kernel
theorem dX6_contains_5 : decode cX6_contains 5 = .ok (.ifCond .eq 7, 3) := by decide +kernel
theorem dX6_contains_8 : decode cX6_contains 8 = .ok (.iconst 1, 1) := by decide +kernel
theorem dX6_contains_9 : decode cX6_contains 9 = .ok (.goto 4, 3) := by decide +kernel
theorem dX6_contains_12 : decode cX6_contains 12 = .ok (.iconst 0, 1) := by decide +kernel
theorem dX6_contains_13 : decode cX6_contains 13 = .ok (.ireturn, 1) := by decide +kernel
