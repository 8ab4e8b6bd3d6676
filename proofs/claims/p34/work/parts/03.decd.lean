theorem dL_from_0 : decode cL_from 0 = .ok (.aload_n 0, 1) := by decide +kernel
theorem dL_from_1 : decode cL_from 1 = .ok (.arraylength, 1) := by decide +kernel
theorem dL_from_2 : decode cL_from 2 = .ok (.ifCond .ne 15, 3) := by decide +kernel
theorem dL_from_5 : decode cL_from 5 = .ok (.sipush 283, 3) := by decide +kernel
theorem dL_from_8 : decode cL_from 8 = .ok (.iload_n 1, 1) := by decide +kernel
theorem dL_from_9 : decode cL_from 9 = .ok (.imul, 1) := by decide +kernel
theorem dL_from_10 : decode cL_from 10 = .ok (.sipush 263, 3) := by decide +kernel
theorem dL_from_13 : decode cL_from 13 = .ok (.iadd, 1) := by decide +kernel
theorem dL_from_14 : decode cL_from 14 = .ok (.goto 14, 3) := by decide +kernel
theorem dL_from_17 : decode cL_from 17 = .ok (.aload_n 0, 1) := by decide +kernel
theorem dL_from_18 : decode cL_from 18 = .ok (.iload_n 1, 1) := by decide +kernel
theorem dL_from_19 : decode cL_from 19 = .ok (.aload_n 0, 1) := by decide +kernel
theorem dL_from_20 : decode cL_from 20 = .ok (.arraylength, 1) := by decide +kernel
theorem dL_from_21 : decode cL_from 21 = .ok (.irem, 1) := by decide +kernel
theorem dL_from_22 : decode cL_from 22 = .ok (.iaload, 1) := by decide +kernel
theorem dL_from_23 : decode cL_from 23 = .ok (.ldc 7, 2) := by decide +kernel
theorem dL_from_25 : decode cL_from 25 = .ok (.iload_n 1, 1) := by decide +kernel
theorem dL_from_26 : decode cL_from 26 = .ok (.imul, 1) := by decide +kernel
theorem dL_from_27 : decode cL_from 27 = .ok (.ixor, 1) := by decide +kernel
theorem dL_from_28 : decode cL_from 28 = .ok (.istore_n 3, 1) := by decide +kernel
theorem dL_from_29 : decode cL_from 29 = .ok (.iload_n 3, 1) := by decide +kernel
theorem dL_from_30 : decode cL_from 30 = .ok (.ldc 8, 2) := by decide +kernel
theorem dL_from_32 : decode cL_from 32 = .ok (.iand, 1) := by decide +kernel
theorem dL_from_33 : decode cL_from 33 = .ok (.iload_n 2, 1) := by decide +kernel
theorem dL_from_34 : decode cL_from 34 = .ok (.irem, 1) := by decide +kernel
theorem dL_from_35 : decode cL_from 35 = .ok (.ireturn, 1) := by decide +kernel
theorem dL_piece_0 : decode cL_piece 0 = .ok (.lload_n 0, 1) := by decide +kernel
theorem dL_piece_1 : decode cL_piece 1 = .ok (.bipush 6, 2) := by decide +kernel
theorem dL_piece_3 : decode cL_piece 3 = .ok (.iload_n 2, 1) := by decide +kernel
theorem dL_piece_4 : decode cL_piece 4 = .ok (.imul, 1) := by decide +kernel
theorem dL_piece_5 : decode cL_piece 5 = .ok (.lushr, 1) := by decide +kernel
theorem dL_piece_6 : decode cL_piece 6 = .ok (.ldc2_w 9, 3) := by decide +kernel
theorem dL_piece_9 : decode cL_piece 9 = .ok (.land, 1) := by decide +kernel
theorem dL_piece_10 : decode cL_piece 10 = .ok (.l2i, 1) := by decide +kernel
theorem dL_piece_11 : decode cL_piece 11 = .ok (.ireturn, 1) := by decide +kernel
theorem dL_now_0 : decode cL_now 0 = .ok (.bipush 12, 2) := by decide +kernel
theorem dL_now_2 : decode cL_now 2 = .ok (.iload_n 1, 1) := by decide +kernel
theorem dL_now_3 : decode cL_now 3 = .ok (.imul, 1) := by decide +kernel
theorem dL_now_4 : decode cL_now 4 = .ok (.aload_n 0, 1) := by decide +kernel
theorem dL_now_5 : decode cL_now 5 = .ok (.iload_n 1, 1) := by decide +kernel
theorem dL_now_6 : decode cL_now 6 = .ok (.iaload, 1) := by decide +kernel
theorem dL_now_7 : decode cL_now 7 = .ok (.iadd, 1) := by decide +kernel
theorem dL_now_8 : decode cL_now 8 = .ok (.ireturn, 1) := by decide +kernel
theorem dL_called_0 : decode cL_called 0 = .ok (.iload_n 0, 1) := by decide +kernel
theorem dL_called_1 : decode cL_called 1 = .ok (.iconst 4, 1) := by decide +kernel
theorem dL_called_2 : decode cL_called 2 = .ok (.if_icmp .lt 17, 3) := by decide +kernel
theorem dL_called_5 : decode cL_called 5 = .ok (.iload_n 0, 1) := by decide +kernel
theorem dL_called_6 : decode cL_called 6 = .ok (.bipush 23, 2) := by decide +kernel
theorem dL_called_8 : decode cL_called 8 = .ok (.if_icmp .gt 11, 3) := by decide +kernel
theorem dL_called_11 : decode cL_called 11 = .ok (.iload_n 0, 1) := by decide +kernel
theorem dL_called_12 : decode cL_called 12 = .ok (.iconst 4, 1) := by decide +kernel
theorem dL_called_13 : decode cL_called 13 = .ok (.isub, 1) := by decide +kernel
theorem dL_called_14 : decode cL_called 14 = .ok (.iconst 4, 1) := by decide +kernel
theorem dL_called_15 : decode cL_called 15 = .ok (.idiv, 1) := by decide +kernel
theorem dL_called_16 : decode cL_called 16 = .ok (.goto 23, 3) := by decide +kernel
theorem dL_called_19 : decode cL_called 19 = .ok (.iload_n 0, 1) := by decide +kernel
theorem dL_called_20 : decode cL_called 20 = .ok (.bipush 24, 2) := by decide +kernel
theorem dL_called_22 : decode cL_called 22 = .ok (.if_icmp .lt 16, 3) := by decide +kernel
theorem dL_called_25 : decode cL_called 25 = .ok (.iload_n 0, 1) := by decide +kernel
theorem dL_called_26 : decode cL_called 26 = .ok (.bipush 28, 2) := by decide +kernel
theorem dL_called_28 : decode cL_called 28 = .ok (.if_icmp .gt 10, 3) := by decide +kernel
theorem dL_called_31 : decode cL_called 31 = .ok (.iload_n 0, 1) := by decide +kernel
theorem dL_called_32 : decode cL_called 32 = .ok (.bipush 24, 2) := by decide +kernel
theorem dL_called_34 : decode cL_called 34 = .ok (.isub, 1) := by decide +kernel
theorem dL_called_35 : decode cL_called 35 = .ok (.goto 4, 3) := by decide +kernel
theorem dL_called_38 : decode cL_called 38 = .ok (.iconst (-1), 1) := by decide +kernel
theorem dL_called_39 : decode cL_called 39 = .ok (.ireturn, 1) := by decide +kernel
theorem dL_calls_0 : decode cL_calls 0 = .ok (.iconst 0, 1) := by decide +kernel
theorem dL_calls_1 : decode cL_calls 1 = .ok (.istore_n 3, 1) := by decide +kernel
theorem dL_calls_2 : decode cL_calls 2 = .ok (.iconst 0, 1) := by decide +kernel
theorem dL_calls_3 : decode cL_calls 3 = .ok (.istore 4, 2) := by decide +kernel
theorem dL_calls_5 : decode cL_calls 5 = .ok (.iload 4, 2) := by decide +kernel
theorem dL_calls_7 : decode cL_calls 7 = .ok (.iload_n 2, 1) := by decide +kernel
theorem dL_calls_8 : decode cL_calls 8 = .ok (.if_icmp .ge 39, 3) := by decide +kernel
theorem dL_calls_11 : decode cL_calls 11 = .ok (.iload_n 3, 1) := by decide +kernel
theorem dL_calls_12 : decode cL_calls 12 = .ok (.lload_n 0, 1) := by decide +kernel
theorem dL_calls_13 : decode cL_calls 13 = .ok (.iload 4, 2) := by decide +kernel
theorem dL_calls_15 : decode cL_calls 15 = .ok (.invokestatic 11, 3) := by decide +kernel
theorem dL_calls_18 : decode cL_calls 18 = .ok (.invokestatic 17, 3) := by decide +kernel
theorem dL_calls_21 : decode cL_calls 21 = .ok (.ifCond .ge 7, 3) := by decide +kernel
theorem dL_calls_24 : decode cL_calls 24 = .ok (.iconst 0, 1) := by decide +kernel
theorem dL_calls_25 : decode cL_calls 25 = .ok (.goto 14, 3) := by decide +kernel
theorem dL_calls_28 : decode cL_calls 28 = .ok (.iconst 1, 1) := by decide +kernel
theorem dL_calls_29 : decode cL_calls 29 = .ok (.lload_n 0, 1) := by decide +kernel
theorem dL_calls_30 : decode cL_calls 30 = .ok (.iload 4, 2) := by decide +kernel
theorem dL_calls_32 : decode cL_calls 32 = .ok (.invokestatic 11, 3) := by decide +kernel
theorem dL_calls_35 : decode cL_calls 35 = .ok (.invokestatic 17, 3) := by decide +kernel
theorem dL_calls_38 : decode cL_calls 38 = .ok (.ishl, 1) := by decide +kernel
theorem dL_calls_39 : decode cL_calls 39 = .ok (.ior, 1) := by decide +kernel
theorem dL_calls_40 : decode cL_calls 40 = .ok (.istore_n 3, 1) := by decide +kernel
theorem dL_calls_41 : decode cL_calls 41 = .ok (.iinc 4 1, 3) := by decide +kernel
theorem dL_calls_44 : decode cL_calls 44 = .ok (.goto (-39), 3) := by decide +kernel
theorem dL_calls_47 : decode cL_calls 47 = .ok (.iload_n 3, 1) := by decide +kernel
theorem dL_calls_48 : decode cL_calls 48 = .ok (.ireturn, 1) := by decide +kernel
theorem dL_reach_0 : decode cL_reach 0 = .ok (.iconst 0, 1) := by decide +kernel
theorem dL_reach_1 : decode cL_reach 1 = .ok (.istore 8, 2) := by decide +kernel
theorem dL_reach_3 : decode cL_reach 3 = .ok (.iload_n 3, 1) := by decide +kernel
theorem dL_reach_4 : decode cL_reach 4 = .ok (.iload 4, 2) := by decide +kernel
theorem dL_reach_6 : decode cL_reach 6 = .ok (.if_icmp .ne 13, 3) := by decide +kernel
theorem dL_reach_9 : decode cL_reach 9 = .ok (.lload 5, 2) := by decide +kernel
theorem dL_reach_11 : decode cL_reach 11 = .ok (.iload 7, 2) := by decide +kernel
theorem dL_reach_13 : decode cL_reach 13 = .ok (.invokestatic 21, 3) := by decide +kernel
theorem dL_reach_16 : decode cL_reach 16 = .ok (.goto 20, 3) := by decide +kernel
theorem dL_reach_19 : decode cL_reach 19 = .ok (.aload_n 0, 1) := by decide +kernel
theorem dL_reach_20 : decode cL_reach 20 = .ok (.aload_n 2, 1) := by decide +kernel
theorem dL_reach_21 : decode cL_reach 21 = .ok (.iload_n 3, 1) := by decide +kernel
theorem dL_reach_22 : decode cL_reach 22 = .ok (.invokestatic 24, 3) := by decide +kernel
theorem dL_reach_25 : decode cL_reach 25 = .ok (.laload, 1) := by decide +kernel
theorem dL_reach_26 : decode cL_reach 26 = .ok (.aload_n 1, 1) := by decide +kernel
theorem dL_reach_27 : decode cL_reach 27 = .ok (.aload_n 2, 1) := by decide +kernel
theorem dL_reach_28 : decode cL_reach 28 = .ok (.iload_n 3, 1) := by decide +kernel
theorem dL_reach_29 : decode cL_reach 29 = .ok (.invokestatic 24, 3) := by decide +kernel
theorem dL_reach_32 : decode cL_reach 32 = .ok (.iaload, 1) := by decide +kernel
theorem dL_reach_33 : decode cL_reach 33 = .ok (.invokestatic 21, 3) := by decide +kernel
theorem dL_reach_36 : decode cL_reach 36 = .ok (.istore 9, 2) := by decide +kernel
theorem dL_reach_38 : decode cL_reach 38 = .ok (.iload 8, 2) := by decide +kernel
theorem dL_reach_40 : decode cL_reach 40 = .ok (.iload 9, 2) := by decide +kernel
theorem dL_reach_42 : decode cL_reach 42 = .ok (.if_icmp .eq 77, 3) := by decide +kernel
theorem dL_reach_45 : decode cL_reach 45 = .ok (.iload 9, 2) := by decide +kernel
theorem dL_reach_47 : decode cL_reach 47 = .ok (.istore 8, 2) := by decide +kernel
theorem dL_reach_49 : decode cL_reach 49 = .ok (.iconst 0, 1) := by decide +kernel
theorem dL_reach_50 : decode cL_reach 50 = .ok (.istore 10, 2) := by decide +kernel
theorem dL_reach_52 : decode cL_reach 52 = .ok (.iload 10, 2) := by decide +kernel
theorem dL_reach_54 : decode cL_reach 54 = .ok (.iconst 5, 1) := by decide +kernel
theorem dL_reach_55 : decode cL_reach 55 = .ok (.if_icmp .ge 61, 3) := by decide +kernel
theorem dL_reach_58 : decode cL_reach 58 = .ok (.iload 8, 2) := by decide +kernel
theorem dL_reach_60 : decode cL_reach 60 = .ok (.iload 10, 2) := by decide +kernel
theorem dL_reach_62 : decode cL_reach 62 = .ok (.ishr, 1) := by decide +kernel
theorem dL_reach_63 : decode cL_reach 63 = .ok (.iconst 1, 1) := by decide +kernel
theorem dL_reach_64 : decode cL_reach 64 = .ok (.iand, 1) := by decide +kernel
theorem dL_reach_65 : decode cL_reach 65 = .ok (.iconst 1, 1) := by decide +kernel
theorem dL_reach_66 : decode cL_reach 66 = .ok (.if_icmp .ne 44, 3) := by decide +kernel
theorem dL_reach_69 : decode cL_reach 69 = .ok (.iload 9, 2) := by decide +kernel
theorem dL_reach_71 : decode cL_reach 71 = .ok (.iload 10, 2) := by decide +kernel
theorem dL_reach_73 : decode cL_reach 73 = .ok (.iload 4, 2) := by decide +kernel
theorem dL_reach_75 : decode cL_reach 75 = .ok (.if_icmp .ne 13, 3) := by decide +kernel
theorem dL_reach_78 : decode cL_reach 78 = .ok (.lload 5, 2) := by decide +kernel
theorem dL_reach_80 : decode cL_reach 80 = .ok (.iload 7, 2) := by decide +kernel
theorem dL_reach_82 : decode cL_reach 82 = .ok (.invokestatic 21, 3) := by decide +kernel
theorem dL_reach_85 : decode cL_reach 85 = .ok (.goto 22, 3) := by decide +kernel
theorem dL_reach_88 : decode cL_reach 88 = .ok (.aload_n 0, 1) := by decide +kernel
theorem dL_reach_89 : decode cL_reach 89 = .ok (.aload_n 2, 1) := by decide +kernel
theorem dL_reach_90 : decode cL_reach 90 = .ok (.iload 10, 2) := by decide +kernel
theorem dL_reach_92 : decode cL_reach 92 = .ok (.invokestatic 24, 3) := by decide +kernel
theorem dL_reach_95 : decode cL_reach 95 = .ok (.laload, 1) := by decide +kernel
theorem dL_reach_96 : decode cL_reach 96 = .ok (.aload_n 1, 1) := by decide +kernel
theorem dL_reach_97 : decode cL_reach 97 = .ok (.aload_n 2, 1) := by decide +kernel
theorem dL_reach_98 : decode cL_reach 98 = .ok (.iload 10, 2) := by decide +kernel
theorem dL_reach_100 : decode cL_reach 100 = .ok (.invokestatic 24, 3) := by decide +kernel
theorem dL_reach_103 : decode cL_reach 103 = .ok (.iaload, 1) := by decide +kernel
theorem dL_reach_104 : decode cL_reach 104 = .ok (.invokestatic 21, 3) := by decide +kernel
theorem dL_reach_107 : decode cL_reach 107 = .ok (.ior, 1) := by decide +kernel
theorem dL_reach_108 : decode cL_reach 108 = .ok (.istore 9, 2) := by decide +kernel
theorem dL_reach_110 : decode cL_reach 110 = .ok (.iinc 10 1, 3) := by decide +kernel
theorem dL_reach_113 : decode cL_reach 113 = .ok (.goto (-61), 3) := by decide +kernel
theorem dL_reach_116 : decode cL_reach 116 = .ok (.goto (-78), 3) := by decide +kernel
theorem dL_reach_119 : decode cL_reach 119 = .ok (.iload 8, 2) := by decide +kernel
theorem dL_reach_121 : decode cL_reach 121 = .ok (.ireturn, 1) := by decide +kernel
theorem dL_force_0 : decode cL_force 0 = .ok (.aload_n 2, 1) := by decide +kernel
theorem dL_force_1 : decode cL_force 1 = .ok (.iconst 5, 1) := by decide +kernel
theorem dL_force_2 : decode cL_force 2 = .ok (.iload_n 3, 1) := by decide +kernel
theorem dL_force_3 : decode cL_force 3 = .ok (.iadd, 1) := by decide +kernel
theorem dL_force_4 : decode cL_force 4 = .ok (.iaload, 1) := by decide +kernel
theorem dL_force_5 : decode cL_force 5 = .ok (.istore 4, 2) := by decide +kernel
theorem dL_force_7 : decode cL_force 7 = .ok (.iconst 0, 1) := by decide +kernel
theorem dL_force_8 : decode cL_force 8 = .ok (.istore 5, 2) := by decide +kernel
theorem dL_force_10 : decode cL_force 10 = .ok (.iload 5, 2) := by decide +kernel
theorem dL_force_12 : decode cL_force 12 = .ok (.iconst 5, 1) := by decide +kernel
theorem dL_force_13 : decode cL_force 13 = .ok (.if_icmp .ge 56, 3) := by decide +kernel
theorem dL_force_16 : decode cL_force 16 = .ok (.aload_n 0, 1) := by decide +kernel
theorem dL_force_17 : decode cL_force 17 = .ok (.aload_n 1, 1) := by decide +kernel
theorem dL_force_18 : decode cL_force 18 = .ok (.aload_n 2, 1) := by decide +kernel
theorem dL_force_19 : decode cL_force 19 = .ok (.iload 5, 2) := by decide +kernel
theorem dL_force_21 : decode cL_force 21 = .ok (.iconst (-1), 1) := by decide +kernel
theorem dL_force_22 : decode cL_force 22 = .ok (.lconst 0, 1) := by decide +kernel
theorem dL_force_23 : decode cL_force 23 = .ok (.iconst 0, 1) := by decide +kernel
theorem dL_force_24 : decode cL_force 24 = .ok (.invokestatic 28, 3) := by decide +kernel
theorem dL_force_27 : decode cL_force 27 = .ok (.istore 6, 2) := by decide +kernel
theorem dL_force_29 : decode cL_force 29 = .ok (.iload 6, 2) := by decide +kernel
theorem dL_force_31 : decode cL_force 31 = .ok (.iload_n 3, 1) := by decide +kernel
theorem dL_force_32 : decode cL_force 32 = .ok (.ishr, 1) := by decide +kernel
theorem dL_force_33 : decode cL_force 33 = .ok (.iconst 1, 1) := by decide +kernel
theorem dL_force_34 : decode cL_force 34 = .ok (.iand, 1) := by decide +kernel
theorem dL_force_35 : decode cL_force 35 = .ok (.iconst 1, 1) := by decide +kernel
theorem dL_force_36 : decode cL_force 36 = .ok (.if_icmp .ne 23, 3) := by decide +kernel
theorem dL_force_39 : decode cL_force 39 = .ok (.aload_n 2, 1) := by decide +kernel
theorem dL_force_40 : decode cL_force 40 = .ok (.iconst 5, 1) := by decide +kernel
theorem dL_force_41 : decode cL_force 41 = .ok (.iload 5, 2) := by decide +kernel
theorem dL_force_43 : decode cL_force 43 = .ok (.iadd, 1) := by decide +kernel
theorem dL_force_44 : decode cL_force 44 = .ok (.iaload, 1) := by decide +kernel
theorem dL_force_45 : decode cL_force 45 = .ok (.iload 4, 2) := by decide +kernel
theorem dL_force_47 : decode cL_force 47 = .ok (.if_icmp .le 12, 3) := by decide +kernel
theorem dL_force_50 : decode cL_force 50 = .ok (.aload_n 2, 1) := by decide +kernel
theorem dL_force_51 : decode cL_force 51 = .ok (.iconst 5, 1) := by decide +kernel
theorem dL_force_52 : decode cL_force 52 = .ok (.iload 5, 2) := by decide +kernel
theorem dL_force_54 : decode cL_force 54 = .ok (.iadd, 1) := by decide +kernel
theorem dL_force_55 : decode cL_force 55 = .ok (.iaload, 1) := by decide +kernel
theorem dL_force_56 : decode cL_force 56 = .ok (.goto 5, 3) := by decide +kernel
theorem dL_force_59 : decode cL_force 59 = .ok (.iload 4, 2) := by decide +kernel
theorem dL_force_61 : decode cL_force 61 = .ok (.istore 4, 2) := by decide +kernel
theorem dL_force_63 : decode cL_force 63 = .ok (.iinc 5 1, 3) := by decide +kernel
theorem dL_force_66 : decode cL_force 66 = .ok (.goto (-56), 3) := by decide +kernel
theorem dL_force_69 : decode cL_force 69 = .ok (.iload 4, 2) := by decide +kernel
theorem dL_force_71 : decode cL_force 71 = .ok (.ireturn, 1) := by decide +kernel
theorem dL_depths_0 : decode cL_depths 0 = .ok (.iconst 0, 1) := by decide +kernel
theorem dL_depths_1 : decode cL_depths 1 = .ok (.istore 7, 2) := by decide +kernel
theorem dL_depths_3 : decode cL_depths 3 = .ok (.iconst 0, 1) := by decide +kernel
theorem dL_depths_4 : decode cL_depths 4 = .ok (.istore 8, 2) := by decide +kernel
theorem dL_depths_6 : decode cL_depths 6 = .ok (.iload 8, 2) := by decide +kernel
theorem dL_depths_8 : decode cL_depths 8 = .ok (.bipush 6, 2) := by decide +kernel
theorem dL_depths_10 : decode cL_depths 10 = .ok (.if_icmp .ge 143, 3) := by decide +kernel
theorem dL_depths_13 : decode cL_depths 13 = .ok (.iconst 0, 1) := by decide +kernel
theorem dL_depths_14 : decode cL_depths 14 = .ok (.istore 9, 2) := by decide +kernel
theorem dL_depths_16 : decode cL_depths 16 = .ok (.iconst 0, 1) := by decide +kernel
theorem dL_depths_17 : decode cL_depths 17 = .ok (.istore 10, 2) := by decide +kernel
theorem dL_depths_19 : decode cL_depths 19 = .ok (.iload 10, 2) := by decide +kernel
theorem dL_depths_21 : decode cL_depths 21 = .ok (.iconst 5, 1) := by decide +kernel
theorem dL_depths_22 : decode cL_depths 22 = .ok (.if_icmp .ge 121, 3) := by decide +kernel
theorem dL_depths_25 : decode cL_depths 25 = .ok (.iload 10, 2) := by decide +kernel
theorem dL_depths_27 : decode cL_depths 27 = .ok (.iload_n 3, 1) := by decide +kernel
theorem dL_depths_28 : decode cL_depths 28 = .ok (.if_icmp .ne 13, 3) := by decide +kernel
theorem dL_depths_31 : decode cL_depths 31 = .ok (.lload 4, 2) := by decide +kernel
theorem dL_depths_33 : decode cL_depths 33 = .ok (.iload 6, 2) := by decide +kernel
theorem dL_depths_35 : decode cL_depths 35 = .ok (.invokestatic 21, 3) := by decide +kernel
theorem dL_depths_38 : decode cL_depths 38 = .ok (.goto 22, 3) := by decide +kernel
theorem dL_depths_41 : decode cL_depths 41 = .ok (.aload_n 0, 1) := by decide +kernel
theorem dL_depths_42 : decode cL_depths 42 = .ok (.aload_n 2, 1) := by decide +kernel
theorem dL_depths_43 : decode cL_depths 43 = .ok (.iload 10, 2) := by decide +kernel
theorem dL_depths_45 : decode cL_depths 45 = .ok (.invokestatic 24, 3) := by decide +kernel
theorem dL_depths_48 : decode cL_depths 48 = .ok (.laload, 1) := by decide +kernel
theorem dL_depths_49 : decode cL_depths 49 = .ok (.aload_n 1, 1) := by decide +kernel
theorem dL_depths_50 : decode cL_depths 50 = .ok (.aload_n 2, 1) := by decide +kernel
theorem dL_depths_51 : decode cL_depths 51 = .ok (.iload 10, 2) := by decide +kernel
theorem dL_depths_53 : decode cL_depths 53 = .ok (.invokestatic 24, 3) := by decide +kernel
theorem dL_depths_56 : decode cL_depths 56 = .ok (.iaload, 1) := by decide +kernel
theorem dL_depths_57 : decode cL_depths 57 = .ok (.invokestatic 21, 3) := by decide +kernel
theorem dL_depths_60 : decode cL_depths 60 = .ok (.istore 11, 2) := by decide +kernel
theorem dL_depths_62 : decode cL_depths 62 = .ok (.iconst 0, 1) := by decide +kernel
theorem dL_depths_63 : decode cL_depths 63 = .ok (.istore 12, 2) := by decide +kernel
theorem dL_depths_65 : decode cL_depths 65 = .ok (.iconst 0, 1) := by decide +kernel
theorem dL_depths_66 : decode cL_depths 66 = .ok (.istore 13, 2) := by decide +kernel
theorem dL_depths_68 : decode cL_depths 68 = .ok (.iload 13, 2) := by decide +kernel
theorem dL_depths_70 : decode cL_depths 70 = .ok (.iconst 5, 1) := by decide +kernel
theorem dL_depths_71 : decode cL_depths 71 = .ok (.if_icmp .ge 54, 3) := by decide +kernel
theorem dL_depths_74 : decode cL_depths 74 = .ok (.iload 11, 2) := by decide +kernel
theorem dL_depths_76 : decode cL_depths 76 = .ok (.iload 13, 2) := by decide +kernel
theorem dL_depths_78 : decode cL_depths 78 = .ok (.ishr, 1) := by decide +kernel
theorem dL_depths_79 : decode cL_depths 79 = .ok (.iconst 1, 1) := by decide +kernel
theorem dL_depths_80 : decode cL_depths 80 = .ok (.iand, 1) := by decide +kernel
theorem dL_depths_81 : decode cL_depths 81 = .ok (.iconst 1, 1) := by decide +kernel
theorem dL_depths_82 : decode cL_depths 82 = .ok (.if_icmp .ne 18, 3) := by decide +kernel
theorem dL_depths_85 : decode cL_depths 85 = .ok (.iload 7, 2) := by decide +kernel
theorem dL_depths_87 : decode cL_depths 87 = .ok (.iconst 4, 1) := by decide +kernel
theorem dL_depths_88 : decode cL_depths 88 = .ok (.iload 13, 2) := by decide +kernel
theorem dL_depths_90 : decode cL_depths 90 = .ok (.imul, 1) := by decide +kernel
theorem dL_depths_91 : decode cL_depths 91 = .ok (.ishr, 1) := by decide +kernel
theorem dL_depths_92 : decode cL_depths 92 = .ok (.bipush 15, 2) := by decide +kernel
theorem dL_depths_94 : decode cL_depths 94 = .ok (.iand, 1) := by decide +kernel
theorem dL_depths_95 : decode cL_depths 95 = .ok (.iconst 1, 1) := by decide +kernel
theorem dL_depths_96 : decode cL_depths 96 = .ok (.iadd, 1) := by decide +kernel
theorem dL_depths_97 : decode cL_depths 97 = .ok (.goto 4, 3) := by decide +kernel
theorem dL_depths_100 : decode cL_depths 100 = .ok (.iconst 0, 1) := by decide +kernel
theorem dL_depths_101 : decode cL_depths 101 = .ok (.istore 14, 2) := by decide +kernel
theorem dL_depths_103 : decode cL_depths 103 = .ok (.iload 14, 2) := by decide +kernel
theorem dL_depths_105 : decode cL_depths 105 = .ok (.iload 12, 2) := by decide +kernel
theorem dL_depths_107 : decode cL_depths 107 = .ok (.if_icmp .le 8, 3) := by decide +kernel
theorem dL_depths_110 : decode cL_depths 110 = .ok (.iload 14, 2) := by decide +kernel
theorem dL_depths_112 : decode cL_depths 112 = .ok (.goto 5, 3) := by decide +kernel
theorem dL_depths_115 : decode cL_depths 115 = .ok (.iload 12, 2) := by decide +kernel
theorem dL_depths_117 : decode cL_depths 117 = .ok (.istore 12, 2) := by decide +kernel
theorem dL_depths_119 : decode cL_depths 119 = .ok (.iinc 13 1, 3) := by decide +kernel
theorem dL_depths_122 : decode cL_depths 122 = .ok (.goto (-54), 3) := by decide +kernel
theorem dL_depths_125 : decode cL_depths 125 = .ok (.iload 9, 2) := by decide +kernel
theorem dL_depths_127 : decode cL_depths 127 = .ok (.iload 12, 2) := by decide +kernel
theorem dL_depths_129 : decode cL_depths 129 = .ok (.iconst 4, 1) := by decide +kernel
theorem dL_depths_130 : decode cL_depths 130 = .ok (.iload 10, 2) := by decide +kernel
theorem dL_depths_132 : decode cL_depths 132 = .ok (.imul, 1) := by decide +kernel
theorem dL_depths_133 : decode cL_depths 133 = .ok (.ishl, 1) := by decide +kernel
theorem dL_depths_134 : decode cL_depths 134 = .ok (.ior, 1) := by decide +kernel
theorem dL_depths_135 : decode cL_depths 135 = .ok (.istore 9, 2) := by decide +kernel
theorem dL_depths_137 : decode cL_depths 137 = .ok (.iinc 10 1, 3) := by decide +kernel
theorem dL_depths_140 : decode cL_depths 140 = .ok (.goto (-121), 3) := by decide +kernel
theorem dL_depths_143 : decode cL_depths 143 = .ok (.iload 9, 2) := by decide +kernel
theorem dL_depths_145 : decode cL_depths 145 = .ok (.istore 7, 2) := by decide +kernel
theorem dL_depths_147 : decode cL_depths 147 = .ok (.iinc 8 1, 3) := by decide +kernel
theorem dL_depths_150 : decode cL_depths 150 = .ok (.goto (-144), 3) := by decide +kernel
theorem dL_depths_153 : decode cL_depths 153 = .ok (.iload 7, 2) := by decide +kernel
theorem dL_depths_155 : decode cL_depths 155 = .ok (.ireturn, 1) := by decide +kernel
theorem dL_extents_0 : decode cL_extents 0 = .ok (.iconst 0, 1) := by decide +kernel
theorem dL_extents_1 : decode cL_extents 1 = .ok (.istore 8, 2) := by decide +kernel
theorem dL_extents_3 : decode cL_extents 3 = .ok (.iload 8, 2) := by decide +kernel
theorem dL_extents_5 : decode cL_extents 5 = .ok (.iconst 5, 1) := by decide +kernel
theorem dL_extents_6 : decode cL_extents 6 = .ok (.if_icmp .ge 15, 3) := by decide +kernel
theorem dL_extents_9 : decode cL_extents 9 = .ok (.aload 7, 2) := by decide +kernel
theorem dL_extents_11 : decode cL_extents 11 = .ok (.iload 8, 2) := by decide +kernel
theorem dL_extents_13 : decode cL_extents 13 = .ok (.iconst 0, 1) := by decide +kernel
theorem dL_extents_14 : decode cL_extents 14 = .ok (.iastore, 1) := by decide +kernel
theorem dL_extents_15 : decode cL_extents 15 = .ok (.iinc 8 1, 3) := by decide +kernel
theorem dL_extents_18 : decode cL_extents 18 = .ok (.goto (-15), 3) := by decide +kernel
theorem dL_extents_21 : decode cL_extents 21 = .ok (.iconst 0, 1) := by decide +kernel
theorem dL_extents_22 : decode cL_extents 22 = .ok (.istore 8, 2) := by decide +kernel
theorem dL_extents_24 : decode cL_extents 24 = .ok (.iload 8, 2) := by decide +kernel
theorem dL_extents_26 : decode cL_extents 26 = .ok (.bipush 6, 2) := by decide +kernel
theorem dL_extents_28 : decode cL_extents 28 = .ok (.if_icmp .ge 165, 3) := by decide +kernel
theorem dL_extents_31 : decode cL_extents 31 = .ok (.iconst 0, 1) := by decide +kernel
theorem dL_extents_32 : decode cL_extents 32 = .ok (.istore 9, 2) := by decide +kernel
theorem dL_extents_34 : decode cL_extents 34 = .ok (.iload 9, 2) := by decide +kernel
theorem dL_extents_36 : decode cL_extents 36 = .ok (.iconst 5, 1) := by decide +kernel
theorem dL_extents_37 : decode cL_extents 37 = .ok (.if_icmp .ge 150, 3) := by decide +kernel
theorem dL_extents_40 : decode cL_extents 40 = .ok (.iload 9, 2) := by decide +kernel
theorem dL_extents_42 : decode cL_extents 42 = .ok (.iload_n 3, 1) := by decide +kernel
theorem dL_extents_43 : decode cL_extents 43 = .ok (.if_icmp .ne 8, 3) := by decide +kernel
theorem dL_extents_46 : decode cL_extents 46 = .ok (.lload 4, 2) := by decide +kernel
theorem dL_extents_48 : decode cL_extents 48 = .ok (.goto 11, 3) := by decide +kernel
theorem dL_extents_51 : decode cL_extents 51 = .ok (.aload_n 0, 1) := by decide +kernel
theorem dL_extents_52 : decode cL_extents 52 = .ok (.aload_n 2, 1) := by decide +kernel
theorem dL_extents_53 : decode cL_extents 53 = .ok (.iload 9, 2) := by decide +kernel
theorem dL_extents_55 : decode cL_extents 55 = .ok (.invokestatic 24, 3) := by decide +kernel
theorem dL_extents_58 : decode cL_extents 58 = .ok (.laload, 1) := by decide +kernel
theorem dL_extents_59 : decode cL_extents 59 = .ok (.lstore 10, 2) := by decide +kernel
theorem dL_extents_61 : decode cL_extents 61 = .ok (.iload 9, 2) := by decide +kernel
theorem dL_extents_63 : decode cL_extents 63 = .ok (.iload_n 3, 1) := by decide +kernel
theorem dL_extents_64 : decode cL_extents 64 = .ok (.if_icmp .ne 8, 3) := by decide +kernel
theorem dL_extents_67 : decode cL_extents 67 = .ok (.iload 6, 2) := by decide +kernel
theorem dL_extents_69 : decode cL_extents 69 = .ok (.goto 11, 3) := by decide +kernel
theorem dL_extents_72 : decode cL_extents 72 = .ok (.aload_n 1, 1) := by decide +kernel
theorem dL_extents_73 : decode cL_extents 73 = .ok (.aload_n 2, 1) := by decide +kernel
theorem dL_extents_74 : decode cL_extents 74 = .ok (.iload 9, 2) := by decide +kernel
theorem dL_extents_76 : decode cL_extents 76 = .ok (.invokestatic 24, 3) := by decide +kernel
theorem dL_extents_79 : decode cL_extents 79 = .ok (.iaload, 1) := by decide +kernel
theorem dL_extents_80 : decode cL_extents 80 = .ok (.istore 12, 2) := by decide +kernel
theorem dL_extents_82 : decode cL_extents 82 = .ok (.iconst 0, 1) := by decide +kernel
theorem dL_extents_83 : decode cL_extents 83 = .ok (.istore 13, 2) := by decide +kernel
theorem dL_extents_85 : decode cL_extents 85 = .ok (.iconst 0, 1) := by decide +kernel
theorem dL_extents_86 : decode cL_extents 86 = .ok (.istore 14, 2) := by decide +kernel
theorem dL_extents_88 : decode cL_extents 88 = .ok (.iload 14, 2) := by decide +kernel
theorem dL_extents_90 : decode cL_extents 90 = .ok (.iload 12, 2) := by decide +kernel
theorem dL_extents_92 : decode cL_extents 92 = .ok (.if_icmp .ge 68, 3) := by decide +kernel
theorem dL_extents_95 : decode cL_extents 95 = .ok (.lload 10, 2) := by decide +kernel
theorem dL_extents_97 : decode cL_extents 97 = .ok (.iload 14, 2) := by decide +kernel
theorem dL_extents_99 : decode cL_extents 99 = .ok (.invokestatic 11, 3) := by decide +kernel
theorem dL_extents_102 : decode cL_extents 102 = .ok (.istore 15, 2) := by decide +kernel
theorem dL_extents_104 : decode cL_extents 104 = .ok (.iload 15, 2) := by decide +kernel
theorem dL_extents_106 : decode cL_extents 106 = .ok (.invokestatic 17, 3) := by decide +kernel
theorem dL_extents_109 : decode cL_extents 109 = .ok (.istore 16, 2) := by decide +kernel
theorem dL_extents_111 : decode cL_extents 111 = .ok (.iload 13, 2) := by decide +kernel
theorem dL_extents_113 : decode cL_extents 113 = .ok (.iload 16, 2) := by decide +kernel
theorem dL_extents_115 : decode cL_extents 115 = .ok (.ifCond .lt 11, 3) := by decide +kernel
theorem dL_extents_118 : decode cL_extents 118 = .ok (.aload 7, 2) := by decide +kernel
theorem dL_extents_120 : decode cL_extents 120 = .ok (.iload 16, 2) := by decide +kernel
theorem dL_extents_122 : decode cL_extents 122 = .ok (.iaload, 1) := by decide +kernel
theorem dL_extents_123 : decode cL_extents 123 = .ok (.goto 28, 3) := by decide +kernel
theorem dL_extents_126 : decode cL_extents 126 = .ok (.iload 15, 2) := by decide +kernel
theorem dL_extents_128 : decode cL_extents 128 = .ok (.iconst 4, 1) := by decide +kernel
theorem dL_extents_129 : decode cL_extents 129 = .ok (.if_icmp .lt 17, 3) := by decide +kernel
theorem dL_extents_132 : decode cL_extents 132 = .ok (.iload 15, 2) := by decide +kernel
theorem dL_extents_134 : decode cL_extents 134 = .ok (.bipush 33, 2) := by decide +kernel
theorem dL_extents_136 : decode cL_extents 136 = .ok (.if_icmp .lt 14, 3) := by decide +kernel
theorem dL_extents_139 : decode cL_extents 139 = .ok (.iload 15, 2) := by decide +kernel
theorem dL_extents_141 : decode cL_extents 141 = .ok (.bipush 45, 2) := by decide +kernel
theorem dL_extents_143 : decode cL_extents 143 = .ok (.if_icmp .ge 7, 3) := by decide +kernel
theorem dL_extents_146 : decode cL_extents 146 = .ok (.iconst 1, 1) := by decide +kernel
theorem dL_extents_147 : decode cL_extents 147 = .ok (.goto 4, 3) := by decide +kernel
theorem dL_extents_150 : decode cL_extents 150 = .ok (.iconst 0, 1) := by decide +kernel
theorem dL_extents_151 : decode cL_extents 151 = .ok (.iadd, 1) := by decide +kernel
theorem dL_extents_152 : decode cL_extents 152 = .ok (.istore 13, 2) := by decide +kernel
theorem dL_extents_154 : decode cL_extents 154 = .ok (.iinc 14 1, 3) := by decide +kernel
theorem dL_extents_157 : decode cL_extents 157 = .ok (.goto (-69), 3) := by decide +kernel
theorem dL_extents_160 : decode cL_extents 160 = .ok (.aload 7, 2) := by decide +kernel
theorem dL_extents_162 : decode cL_extents 162 = .ok (.iload 9, 2) := by decide +kernel
theorem dL_extents_164 : decode cL_extents 164 = .ok (.iload 13, 2) := by decide +kernel
theorem dL_extents_166 : decode cL_extents 166 = .ok (.sipush 500, 3) := by decide +kernel
theorem dL_extents_169 : decode cL_extents 169 = .ok (.if_icmp .le 9, 3) := by decide +kernel
theorem dL_extents_172 : decode cL_extents 172 = .ok (.sipush 500, 3) := by decide +kernel
theorem dL_extents_175 : decode cL_extents 175 = .ok (.goto 5, 3) := by decide +kernel
theorem dL_extents_178 : decode cL_extents 178 = .ok (.iload 13, 2) := by decide +kernel
theorem dL_extents_180 : decode cL_extents 180 = .ok (.iastore, 1) := by decide +kernel
theorem dL_extents_181 : decode cL_extents 181 = .ok (.iinc 9 1, 3) := by decide +kernel
theorem dL_extents_184 : decode cL_extents 184 = .ok (.goto (-150), 3) := by decide +kernel
theorem dL_extents_187 : decode cL_extents 187 = .ok (.iinc 8 1, 3) := by decide +kernel
theorem dL_extents_190 : decode cL_extents 190 = .ok (.goto (-166), 3) := by decide +kernel
theorem dL_extents_193 : decode cL_extents 193 = .ok (.return_, 1) := by decide +kernel
theorem dL_refusal_0 : decode cL_refusal 0 = .ok (.iconst 5, 1) := by decide +kernel
theorem dL_refusal_1 : decode cL_refusal 1 = .ok (.newarray .int, 2) := by decide +kernel
theorem dL_refusal_3 : decode cL_refusal 3 = .ok (.astore 10, 2) := by decide +kernel
theorem dL_refusal_5 : decode cL_refusal 5 = .ok (.aload_n 0, 1) := by decide +kernel
theorem dL_refusal_6 : decode cL_refusal 6 = .ok (.aload_n 1, 1) := by decide +kernel
theorem dL_refusal_7 : decode cL_refusal 7 = .ok (.aload_n 3, 1) := by decide +kernel
theorem dL_refusal_8 : decode cL_refusal 8 = .ok (.iload 5, 2) := by decide +kernel
theorem dL_refusal_10 : decode cL_refusal 10 = .ok (.invokestatic 32, 3) := by decide +kernel
theorem dL_refusal_13 : decode cL_refusal 13 = .ok (.istore 11, 2) := by decide +kernel
theorem dL_refusal_15 : decode cL_refusal 15 = .ok (.aload_n 0, 1) := by decide +kernel
theorem dL_refusal_16 : decode cL_refusal 16 = .ok (.aload_n 1, 1) := by decide +kernel
theorem dL_refusal_17 : decode cL_refusal 17 = .ok (.aload_n 3, 1) := by decide +kernel
theorem dL_refusal_18 : decode cL_refusal 18 = .ok (.iload 5, 2) := by decide +kernel
theorem dL_refusal_20 : decode cL_refusal 20 = .ok (.iconst (-1), 1) := by decide +kernel
theorem dL_refusal_21 : decode cL_refusal 21 = .ok (.lconst 0, 1) := by decide +kernel
theorem dL_refusal_22 : decode cL_refusal 22 = .ok (.iconst 0, 1) := by decide +kernel
theorem dL_refusal_23 : decode cL_refusal 23 = .ok (.invokestatic 28, 3) := by decide +kernel
theorem dL_refusal_26 : decode cL_refusal 26 = .ok (.istore 12, 2) := by decide +kernel
theorem dL_refusal_28 : decode cL_refusal 28 = .ok (.aload_n 0, 1) := by decide +kernel
theorem dL_refusal_29 : decode cL_refusal 29 = .ok (.aload_n 1, 1) := by decide +kernel
theorem dL_refusal_30 : decode cL_refusal 30 = .ok (.aload_n 3, 1) := by decide +kernel
theorem dL_refusal_31 : decode cL_refusal 31 = .ok (.iload 5, 2) := by decide +kernel
theorem dL_refusal_33 : decode cL_refusal 33 = .ok (.iload 5, 2) := by decide +kernel
theorem dL_refusal_35 : decode cL_refusal 35 = .ok (.lload 6, 2) := by decide +kernel
theorem dL_refusal_37 : decode cL_refusal 37 = .ok (.iload 8, 2) := by decide +kernel
theorem dL_refusal_39 : decode cL_refusal 39 = .ok (.invokestatic 28, 3) := by decide +kernel
theorem dL_refusal_42 : decode cL_refusal 42 = .ok (.istore 13, 2) := by decide +kernel
theorem dL_refusal_44 : decode cL_refusal 44 = .ok (.aload_n 3, 1) := by decide +kernel
theorem dL_refusal_45 : decode cL_refusal 45 = .ok (.bipush 10, 2) := by decide +kernel
theorem dL_refusal_47 : decode cL_refusal 47 = .ok (.iload 4, 2) := by decide +kernel
theorem dL_refusal_49 : decode cL_refusal 49 = .ok (.iadd, 1) := by decide +kernel
theorem dL_refusal_50 : decode cL_refusal 50 = .ok (.iaload, 1) := by decide +kernel
theorem dL_refusal_51 : decode cL_refusal 51 = .ok (.iload 11, 2) := by decide +kernel
theorem dL_refusal_53 : decode cL_refusal 53 = .ok (.if_icmp .lt 10, 3) := by decide +kernel
theorem dL_refusal_56 : decode cL_refusal 56 = .ok (.iload 9, 2) := by decide +kernel
theorem dL_refusal_58 : decode cL_refusal 58 = .ok (.iload 11, 2) := by decide +kernel
theorem dL_refusal_60 : decode cL_refusal 60 = .ok (.if_icmp .ge 6, 3) := by decide +kernel
theorem dL_refusal_63 : decode cL_refusal 63 = .ok (.bipush (-2), 2) := by decide +kernel
theorem dL_refusal_65 : decode cL_refusal 65 = .ok (.ireturn, 1) := by decide +kernel
theorem dL_refusal_66 : decode cL_refusal 66 = .ok (.iload 13, 2) := by decide +kernel
theorem dL_refusal_68 : decode cL_refusal 68 = .ok (.iload 5, 2) := by decide +kernel
theorem dL_refusal_70 : decode cL_refusal 70 = .ok (.ishr, 1) := by decide +kernel
theorem dL_refusal_71 : decode cL_refusal 71 = .ok (.iconst 1, 1) := by decide +kernel
theorem dL_refusal_72 : decode cL_refusal 72 = .ok (.iand, 1) := by decide +kernel
theorem dL_refusal_73 : decode cL_refusal 73 = .ok (.iconst 1, 1) := by decide +kernel
theorem dL_refusal_74 : decode cL_refusal 74 = .ok (.if_icmp .ne 6, 3) := by decide +kernel
theorem dL_refusal_77 : decode cL_refusal 77 = .ok (.bipush (-3), 2) := by decide +kernel
theorem dL_refusal_79 : decode cL_refusal 79 = .ok (.ireturn, 1) := by decide +kernel
theorem dL_refusal_80 : decode cL_refusal 80 = .ok (.aload_n 0, 1) := by decide +kernel
theorem dL_refusal_81 : decode cL_refusal 81 = .ok (.aload_n 1, 1) := by decide +kernel
theorem dL_refusal_82 : decode cL_refusal 82 = .ok (.aload_n 3, 1) := by decide +kernel
theorem dL_refusal_83 : decode cL_refusal 83 = .ok (.iload 5, 2) := by decide +kernel
theorem dL_refusal_85 : decode cL_refusal 85 = .ok (.lload 6, 2) := by decide +kernel
theorem dL_refusal_87 : decode cL_refusal 87 = .ok (.iload 8, 2) := by decide +kernel
theorem dL_refusal_89 : decode cL_refusal 89 = .ok (.aload 10, 2) := by decide +kernel
theorem dL_refusal_91 : decode cL_refusal 91 = .ok (.invokestatic 36, 3) := by decide +kernel
theorem dL_refusal_94 : decode cL_refusal 94 = .ok (.iconst 0, 1) := by decide +kernel
theorem dL_refusal_95 : decode cL_refusal 95 = .ok (.istore 14, 2) := by decide +kernel
theorem dL_refusal_97 : decode cL_refusal 97 = .ok (.iload 14, 2) := by decide +kernel
theorem dL_refusal_99 : decode cL_refusal 99 = .ok (.iconst 5, 1) := by decide +kernel
theorem dL_refusal_100 : decode cL_refusal 100 = .ok (.if_icmp .ge 36, 3) := by decide +kernel
theorem dL_refusal_103 : decode cL_refusal 103 = .ok (.aload_n 0, 1) := by decide +kernel
theorem dL_refusal_104 : decode cL_refusal 104 = .ok (.aload_n 1, 1) := by decide +kernel
theorem dL_refusal_105 : decode cL_refusal 105 = .ok (.aload_n 3, 1) := by decide +kernel
theorem dL_refusal_106 : decode cL_refusal 106 = .ok (.iload 5, 2) := by decide +kernel
theorem dL_refusal_108 : decode cL_refusal 108 = .ok (.lload 6, 2) := by decide +kernel
theorem dL_refusal_110 : decode cL_refusal 110 = .ok (.iload 8, 2) := by decide +kernel
theorem dL_refusal_112 : decode cL_refusal 112 = .ok (.invokestatic 40, 3) := by decide +kernel
theorem dL_refusal_115 : decode cL_refusal 115 = .ok (.iconst 4, 1) := by decide +kernel
theorem dL_refusal_116 : decode cL_refusal 116 = .ok (.iload 14, 2) := by decide +kernel
theorem dL_refusal_118 : decode cL_refusal 118 = .ok (.imul, 1) := by decide +kernel
theorem dL_refusal_119 : decode cL_refusal 119 = .ok (.ishr, 1) := by decide +kernel
theorem dL_refusal_120 : decode cL_refusal 120 = .ok (.bipush 15, 2) := by decide +kernel
theorem dL_refusal_122 : decode cL_refusal 122 = .ok (.iand, 1) := by decide +kernel
theorem dL_refusal_123 : decode cL_refusal 123 = .ok (.iconst 5, 1) := by decide +kernel
theorem dL_refusal_124 : decode cL_refusal 124 = .ok (.if_icmp .le 6, 3) := by decide +kernel
theorem dL_refusal_127 : decode cL_refusal 127 = .ok (.bipush (-4), 2) := by decide +kernel
theorem dL_refusal_129 : decode cL_refusal 129 = .ok (.ireturn, 1) := by decide +kernel
theorem dL_refusal_130 : decode cL_refusal 130 = .ok (.iinc 14 1, 3) := by decide +kernel
theorem dL_refusal_133 : decode cL_refusal 133 = .ok (.goto (-36), 3) := by decide +kernel
theorem dL_refusal_136 : decode cL_refusal 136 = .ok (.iconst 0, 1) := by decide +kernel
theorem dL_refusal_137 : decode cL_refusal 137 = .ok (.istore 14, 2) := by decide +kernel
theorem dL_refusal_139 : decode cL_refusal 139 = .ok (.iload 14, 2) := by decide +kernel
theorem dL_refusal_141 : decode cL_refusal 141 = .ok (.iconst 5, 1) := by decide +kernel
theorem dL_refusal_142 : decode cL_refusal 142 = .ok (.if_icmp .ge 22, 3) := by decide +kernel
theorem dL_refusal_145 : decode cL_refusal 145 = .ok (.aload 10, 2) := by decide +kernel
theorem dL_refusal_147 : decode cL_refusal 147 = .ok (.iload 14, 2) := by decide +kernel
theorem dL_refusal_149 : decode cL_refusal 149 = .ok (.iaload, 1) := by decide +kernel
theorem dL_refusal_150 : decode cL_refusal 150 = .ok (.bipush 100, 2) := by decide +kernel
theorem dL_refusal_152 : decode cL_refusal 152 = .ok (.if_icmp .le 6, 3) := by decide +kernel
theorem dL_refusal_155 : decode cL_refusal 155 = .ok (.bipush (-5), 2) := by decide +kernel
theorem dL_refusal_157 : decode cL_refusal 157 = .ok (.ireturn, 1) := by decide +kernel
theorem dL_refusal_158 : decode cL_refusal 158 = .ok (.iinc 14 1, 3) := by decide +kernel
theorem dL_refusal_161 : decode cL_refusal 161 = .ok (.goto (-22), 3) := by decide +kernel
theorem dL_refusal_164 : decode cL_refusal 164 = .ok (.iconst 0, 1) := by decide +kernel
theorem dL_refusal_165 : decode cL_refusal 165 = .ok (.istore 14, 2) := by decide +kernel
theorem dL_refusal_167 : decode cL_refusal 167 = .ok (.iload 14, 2) := by decide +kernel
theorem dL_refusal_169 : decode cL_refusal 169 = .ok (.iconst 5, 1) := by decide +kernel
theorem dL_refusal_170 : decode cL_refusal 170 = .ok (.if_icmp .ge 41, 3) := by decide +kernel
theorem dL_refusal_173 : decode cL_refusal 173 = .ok (.iload 13, 2) := by decide +kernel
theorem dL_refusal_175 : decode cL_refusal 175 = .ok (.iload 12, 2) := by decide +kernel
theorem dL_refusal_177 : decode cL_refusal 177 = .ok (.iconst (-1), 1) := by decide +kernel
theorem dL_refusal_178 : decode cL_refusal 178 = .ok (.ixor, 1) := by decide +kernel
theorem dL_refusal_179 : decode cL_refusal 179 = .ok (.iand, 1) := by decide +kernel
theorem dL_refusal_180 : decode cL_refusal 180 = .ok (.iload 14, 2) := by decide +kernel
theorem dL_refusal_182 : decode cL_refusal 182 = .ok (.ishr, 1) := by decide +kernel
theorem dL_refusal_183 : decode cL_refusal 183 = .ok (.iconst 1, 1) := by decide +kernel
theorem dL_refusal_184 : decode cL_refusal 184 = .ok (.iand, 1) := by decide +kernel
theorem dL_refusal_185 : decode cL_refusal 185 = .ok (.iconst 1, 1) := by decide +kernel
theorem dL_refusal_186 : decode cL_refusal 186 = .ok (.if_icmp .ne 19, 3) := by decide +kernel
theorem dL_refusal_189 : decode cL_refusal 189 = .ok (.aload_n 2, 1) := by decide +kernel
theorem dL_refusal_190 : decode cL_refusal 190 = .ok (.aload_n 3, 1) := by decide +kernel
theorem dL_refusal_191 : decode cL_refusal 191 = .ok (.iload 14, 2) := by decide +kernel
theorem dL_refusal_193 : decode cL_refusal 193 = .ok (.invokestatic 24, 3) := by decide +kernel
theorem dL_refusal_196 : decode cL_refusal 196 = .ok (.iaload, 1) := by decide +kernel
theorem dL_refusal_197 : decode cL_refusal 197 = .ok (.iload 11, 2) := by decide +kernel
theorem dL_refusal_199 : decode cL_refusal 199 = .ok (.if_icmp .ge 6, 3) := by decide +kernel
theorem dL_refusal_202 : decode cL_refusal 202 = .ok (.bipush (-6), 2) := by decide +kernel
theorem dL_refusal_204 : decode cL_refusal 204 = .ok (.ireturn, 1) := by decide +kernel
theorem dL_refusal_205 : decode cL_refusal 205 = .ok (.iinc 14 1, 3) := by decide +kernel
theorem dL_refusal_208 : decode cL_refusal 208 = .ok (.goto (-41), 3) := by decide +kernel
theorem dL_refusal_211 : decode cL_refusal 211 = .ok (.iconst 0, 1) := by decide +kernel
theorem dL_refusal_212 : decode cL_refusal 212 = .ok (.ireturn, 1) := by decide +kernel
theorem dL_sort_0 : decode cL_sort 0 = .ok (.aload_n 0, 1) := by decide +kernel
theorem dL_sort_1 : decode cL_sort 1 = .ok (.iload_n 1, 1) := by decide +kernel
theorem dL_sort_2 : decode cL_sort 2 = .ok (.iload_n 2, 1) := by decide +kernel
theorem dL_sort_3 : decode cL_sort 3 = .ok (.iload_n 3, 1) := by decide +kernel
theorem dL_sort_4 : decode cL_sort 4 = .ok (.invokevirtual 44, 3) := by decide +kernel
theorem dL_sort_7 : decode cL_sort 7 = .ok (.ireturn, 1) := by decide +kernel
theorem dL_sort_8 : decode cL_sort 8 = .ok (.astore 4, 2) := by decide +kernel
theorem dL_sort_10 : decode cL_sort 10 = .ok (.bipush (-9), 2) := by decide +kernel
theorem dL_sort_12 : decode cL_sort 12 = .ok (.ireturn, 1) := by decide +kernel
theorem dL_walk_0 : decode cL_walk 0 = .ok (.bipush 24, 2) := by decide +kernel
theorem dL_walk_2 : decode cL_walk 2 = .ok (.newarray .int, 2) := by decide +kernel
theorem dL_walk_4 : decode cL_walk 4 = .ok (.astore 9, 2) := by decide +kernel
theorem dL_walk_6 : decode cL_walk 6 = .ok (.iconst 0, 1) := by decide +kernel
theorem dL_walk_7 : decode cL_walk 7 = .ok (.istore 10, 2) := by decide +kernel
theorem dL_walk_9 : decode cL_walk 9 = .ok (.iconst 0, 1) := by decide +kernel
theorem dL_walk_10 : decode cL_walk 10 = .ok (.istore 11, 2) := by decide +kernel
theorem dL_walk_12 : decode cL_walk 12 = .ok (.iconst 0, 1) := by decide +kernel
theorem dL_walk_13 : decode cL_walk 13 = .ok (.istore 12, 2) := by decide +kernel
theorem dL_walk_15 : decode cL_walk 15 = .ok (.aload 9, 2) := by decide +kernel
theorem dL_walk_17 : decode cL_walk 17 = .ok (.iconst 0, 1) := by decide +kernel
theorem dL_walk_18 : decode cL_walk 18 = .ok (.iload 5, 2) := by decide +kernel
theorem dL_walk_20 : decode cL_walk 20 = .ok (.iastore, 1) := by decide +kernel
theorem dL_walk_21 : decode cL_walk 21 = .ok (.aload 9, 2) := by decide +kernel
theorem dL_walk_23 : decode cL_walk 23 = .ok (.iconst 2, 1) := by decide +kernel
theorem dL_walk_24 : decode cL_walk 24 = .ok (.iload 6, 2) := by decide +kernel
theorem dL_walk_26 : decode cL_walk 26 = .ok (.iastore, 1) := by decide +kernel
theorem dL_walk_27 : decode cL_walk 27 = .ok (.iload 10, 2) := by decide +kernel
theorem dL_walk_29 : decode cL_walk 29 = .ok (.ifCond .lt 511, 3) := by decide +kernel
theorem dL_walk_32 : decode cL_walk 32 = .ok (.aload 9, 2) := by decide +kernel
theorem dL_walk_34 : decode cL_walk 34 = .ok (.iconst 3, 1) := by decide +kernel
theorem dL_walk_35 : decode cL_walk 35 = .ok (.iload 10, 2) := by decide +kernel
theorem dL_walk_37 : decode cL_walk 37 = .ok (.imul, 1) := by decide +kernel
theorem dL_walk_38 : decode cL_walk 38 = .ok (.iaload, 1) := by decide +kernel
theorem dL_walk_39 : decode cL_walk 39 = .ok (.istore 13, 2) := by decide +kernel
theorem dL_walk_41 : decode cL_walk 41 = .ok (.aload 9, 2) := by decide +kernel
theorem dL_walk_43 : decode cL_walk 43 = .ok (.iconst 3, 1) := by decide +kernel
theorem dL_walk_44 : decode cL_walk 44 = .ok (.iload 10, 2) := by decide +kernel
theorem dL_walk_46 : decode cL_walk 46 = .ok (.imul, 1) := by decide +kernel
theorem dL_walk_47 : decode cL_walk 47 = .ok (.iconst 1, 1) := by decide +kernel
theorem dL_walk_48 : decode cL_walk 48 = .ok (.iadd, 1) := by decide +kernel
theorem dL_walk_49 : decode cL_walk 49 = .ok (.iaload, 1) := by decide +kernel
theorem dL_walk_50 : decode cL_walk 50 = .ok (.istore 14, 2) := by decide +kernel
theorem dL_walk_52 : decode cL_walk 52 = .ok (.aload 9, 2) := by decide +kernel
theorem dL_walk_54 : decode cL_walk 54 = .ok (.iconst 3, 1) := by decide +kernel
theorem dL_walk_55 : decode cL_walk 55 = .ok (.iload 10, 2) := by decide +kernel
theorem dL_walk_57 : decode cL_walk 57 = .ok (.imul, 1) := by decide +kernel
theorem dL_walk_58 : decode cL_walk 58 = .ok (.iconst 2, 1) := by decide +kernel
theorem dL_walk_59 : decode cL_walk 59 = .ok (.iadd, 1) := by decide +kernel
theorem dL_walk_60 : decode cL_walk 60 = .ok (.iaload, 1) := by decide +kernel
theorem dL_walk_61 : decode cL_walk 61 = .ok (.istore 15, 2) := by decide +kernel
theorem dL_walk_63 : decode cL_walk 63 = .ok (.iload 14, 2) := by decide +kernel
theorem dL_walk_65 : decode cL_walk 65 = .ok (.aload_n 2, 1) := by decide +kernel
theorem dL_walk_66 : decode cL_walk 66 = .ok (.aload 4, 2) := by decide +kernel
theorem dL_walk_68 : decode cL_walk 68 = .ok (.iload 13, 2) := by decide +kernel
theorem dL_walk_70 : decode cL_walk 70 = .ok (.invokestatic 24, 3) := by decide +kernel
theorem dL_walk_73 : decode cL_walk 73 = .ok (.iaload, 1) := by decide +kernel
theorem dL_walk_74 : decode cL_walk 74 = .ok (.if_icmp .lt 9, 3) := by decide +kernel
theorem dL_walk_77 : decode cL_walk 77 = .ok (.iinc 10 (-1), 3) := by decide +kernel
theorem dL_walk_80 : decode cL_walk 80 = .ok (.goto 457, 3) := by decide +kernel
theorem dL_walk_83 : decode cL_walk 83 = .ok (.aload_n 1, 1) := by decide +kernel
theorem dL_walk_84 : decode cL_walk 84 = .ok (.aload 4, 2) := by decide +kernel
theorem dL_walk_86 : decode cL_walk 86 = .ok (.iload 13, 2) := by decide +kernel
theorem dL_walk_88 : decode cL_walk 88 = .ok (.invokestatic 24, 3) := by decide +kernel
theorem dL_walk_91 : decode cL_walk 91 = .ok (.laload, 1) := by decide +kernel
theorem dL_walk_92 : decode cL_walk 92 = .ok (.iload 14, 2) := by decide +kernel
theorem dL_walk_94 : decode cL_walk 94 = .ok (.invokestatic 11, 3) := by decide +kernel
theorem dL_walk_97 : decode cL_walk 97 = .ok (.istore 16, 2) := by decide +kernel
theorem dL_walk_99 : decode cL_walk 99 = .ok (.iload 16, 2) := by decide +kernel
theorem dL_walk_101 : decode cL_walk 101 = .ok (.iconst 3, 1) := by decide +kernel
theorem dL_walk_102 : decode cL_walk 102 = .ok (.if_icmp .lt 28, 3) := by decide +kernel
theorem dL_walk_105 : decode cL_walk 105 = .ok (.iload 16, 2) := by decide +kernel
theorem dL_walk_107 : decode cL_walk 107 = .ok (.iconst 3, 1) := by decide +kernel
theorem dL_walk_108 : decode cL_walk 108 = .ok (.if_icmp .ne 8, 3) := by decide +kernel
theorem dL_walk_111 : decode cL_walk 111 = .ok (.iload 15, 2) := by decide +kernel
theorem dL_walk_113 : decode cL_walk 113 = .ok (.ifCond .ge 17, 3) := by decide +kernel
theorem dL_walk_116 : decode cL_walk 116 = .ok (.iload 16, 2) := by decide +kernel
theorem dL_walk_118 : decode cL_walk 118 = .ok (.bipush 33, 2) := by decide +kernel
theorem dL_walk_120 : decode cL_walk 120 = .ok (.if_icmp .lt 14, 3) := by decide +kernel
theorem dL_walk_123 : decode cL_walk 123 = .ok (.iload 16, 2) := by decide +kernel
theorem dL_walk_125 : decode cL_walk 125 = .ok (.bipush 45, 2) := by decide +kernel
theorem dL_walk_127 : decode cL_walk 127 = .ok (.if_icmp .ge 7, 3) := by decide +kernel
theorem dL_walk_130 : decode cL_walk 130 = .ok (.iconst 1, 1) := by decide +kernel
theorem dL_walk_131 : decode cL_walk 131 = .ok (.goto 4, 3) := by decide +kernel
theorem dL_walk_134 : decode cL_walk 134 = .ok (.iconst 0, 1) := by decide +kernel
theorem dL_walk_135 : decode cL_walk 135 = .ok (.istore 17, 2) := by decide +kernel
theorem dL_walk_137 : decode cL_walk 137 = .ok (.aload 9, 2) := by decide +kernel
theorem dL_walk_139 : decode cL_walk 139 = .ok (.iconst 3, 1) := by decide +kernel
theorem dL_walk_140 : decode cL_walk 140 = .ok (.iload 10, 2) := by decide +kernel
theorem dL_walk_142 : decode cL_walk 142 = .ok (.imul, 1) := by decide +kernel
theorem dL_walk_143 : decode cL_walk 143 = .ok (.iconst 1, 1) := by decide +kernel
theorem dL_walk_144 : decode cL_walk 144 = .ok (.iadd, 1) := by decide +kernel
theorem dL_walk_145 : decode cL_walk 145 = .ok (.dup2, 1) := by decide +kernel
theorem dL_walk_146 : decode cL_walk 146 = .ok (.iaload, 1) := by decide +kernel
theorem dL_walk_147 : decode cL_walk 147 = .ok (.iconst 1, 1) := by decide +kernel
theorem dL_walk_148 : decode cL_walk 148 = .ok (.iadd, 1) := by decide +kernel
theorem dL_walk_149 : decode cL_walk 149 = .ok (.iastore, 1) := by decide +kernel
theorem dL_walk_150 : decode cL_walk 150 = .ok (.iload 16, 2) := by decide +kernel
theorem dL_walk_152 : decode cL_walk 152 = .ok (.bipush 29, 2) := by decide +kernel
theorem dL_walk_154 : decode cL_walk 154 = .ok (.if_icmp .lt 102, 3) := by decide +kernel
theorem dL_walk_157 : decode cL_walk 157 = .ok (.iload 16, 2) := by decide +kernel
theorem dL_walk_159 : decode cL_walk 159 = .ok (.bipush 32, 2) := by decide +kernel
theorem dL_walk_161 : decode cL_walk 161 = .ok (.if_icmp .ge 95, 3) := by decide +kernel
theorem dL_walk_164 : decode cL_walk 164 = .ok (.iload 15, 2) := by decide +kernel
theorem dL_walk_166 : decode cL_walk 166 = .ok (.iload 16, 2) := by decide +kernel
theorem dL_walk_168 : decode cL_walk 168 = .ok (.bipush 29, 2) := by decide +kernel
theorem dL_walk_170 : decode cL_walk 170 = .ok (.isub, 1) := by decide +kernel
theorem dL_walk_171 : decode cL_walk 171 = .ok (.if_icmp .eq 85, 3) := by decide +kernel
theorem dL_walk_174 : decode cL_walk 174 = .ok (.iconst 1, 1) := by decide +kernel
theorem dL_walk_175 : decode cL_walk 175 = .ok (.istore 18, 2) := by decide +kernel
theorem dL_walk_177 : decode cL_walk 177 = .ok (.iload 14, 2) := by decide +kernel
theorem dL_walk_179 : decode cL_walk 179 = .ok (.istore 19, 2) := by decide +kernel
theorem dL_walk_181 : decode cL_walk 181 = .ok (.iload 18, 2) := by decide +kernel
theorem dL_walk_183 : decode cL_walk 183 = .ok (.ifCond .le 60, 3) := by decide +kernel
theorem dL_walk_186 : decode cL_walk 186 = .ok (.iinc 19 1, 3) := by decide +kernel
theorem dL_walk_189 : decode cL_walk 189 = .ok (.aload_n 1, 1) := by decide +kernel
theorem dL_walk_190 : decode cL_walk 190 = .ok (.aload 4, 2) := by decide +kernel
theorem dL_walk_192 : decode cL_walk 192 = .ok (.iload 13, 2) := by decide +kernel
theorem dL_walk_194 : decode cL_walk 194 = .ok (.invokestatic 24, 3) := by decide +kernel
theorem dL_walk_197 : decode cL_walk 197 = .ok (.laload, 1) := by decide +kernel
theorem dL_walk_198 : decode cL_walk 198 = .ok (.iload 19, 2) := by decide +kernel
theorem dL_walk_200 : decode cL_walk 200 = .ok (.invokestatic 11, 3) := by decide +kernel
theorem dL_walk_203 : decode cL_walk 203 = .ok (.istore 20, 2) := by decide +kernel
theorem dL_walk_205 : decode cL_walk 205 = .ok (.iload 18, 2) := by decide +kernel
theorem dL_walk_207 : decode cL_walk 207 = .ok (.iload 20, 2) := by decide +kernel
theorem dL_walk_209 : decode cL_walk 209 = .ok (.bipush 29, 2) := by decide +kernel
theorem dL_walk_211 : decode cL_walk 211 = .ok (.if_icmp .lt 14, 3) := by decide +kernel
theorem dL_walk_214 : decode cL_walk 214 = .ok (.iload 20, 2) := by decide +kernel
theorem dL_walk_216 : decode cL_walk 216 = .ok (.bipush 32, 2) := by decide +kernel
theorem dL_walk_218 : decode cL_walk 218 = .ok (.if_icmp .ge 7, 3) := by decide +kernel
theorem dL_walk_221 : decode cL_walk 221 = .ok (.iconst 1, 1) := by decide +kernel
theorem dL_walk_222 : decode cL_walk 222 = .ok (.goto 15, 3) := by decide +kernel
theorem dL_walk_225 : decode cL_walk 225 = .ok (.iload 20, 2) := by decide +kernel
theorem dL_walk_227 : decode cL_walk 227 = .ok (.bipush 32, 2) := by decide +kernel
theorem dL_walk_229 : decode cL_walk 229 = .ok (.if_icmp .ne 7, 3) := by decide +kernel
theorem dL_walk_232 : decode cL_walk 232 = .ok (.iconst (-1), 1) := by decide +kernel
theorem dL_walk_233 : decode cL_walk 233 = .ok (.goto 4, 3) := by decide +kernel
theorem dL_walk_236 : decode cL_walk 236 = .ok (.iconst 0, 1) := by decide +kernel
theorem dL_walk_237 : decode cL_walk 237 = .ok (.iadd, 1) := by decide +kernel
theorem dL_walk_238 : decode cL_walk 238 = .ok (.istore 18, 2) := by decide +kernel
theorem dL_walk_240 : decode cL_walk 240 = .ok (.goto (-59), 3) := by decide +kernel
theorem dL_walk_243 : decode cL_walk 243 = .ok (.aload 9, 2) := by decide +kernel
theorem dL_walk_245 : decode cL_walk 245 = .ok (.iconst 3, 1) := by decide +kernel
theorem dL_walk_246 : decode cL_walk 246 = .ok (.iload 10, 2) := by decide +kernel
theorem dL_walk_248 : decode cL_walk 248 = .ok (.imul, 1) := by decide +kernel
theorem dL_walk_249 : decode cL_walk 249 = .ok (.iconst 1, 1) := by decide +kernel
theorem dL_walk_250 : decode cL_walk 250 = .ok (.iadd, 1) := by decide +kernel
theorem dL_walk_251 : decode cL_walk 251 = .ok (.iload 19, 2) := by decide +kernel
theorem dL_walk_253 : decode cL_walk 253 = .ok (.iconst 1, 1) := by decide +kernel
theorem dL_walk_254 : decode cL_walk 254 = .ok (.iadd, 1) := by decide +kernel
theorem dL_walk_255 : decode cL_walk 255 = .ok (.iastore, 1) := by decide +kernel
theorem dL_walk_256 : decode cL_walk 256 = .ok (.iload 17, 2) := by decide +kernel
theorem dL_walk_258 : decode cL_walk 258 = .ok (.ifCond .eq 205, 3) := by decide +kernel
theorem dL_walk_261 : decode cL_walk 261 = .ok (.iload 16, 2) := by decide +kernel
theorem dL_walk_263 : decode cL_walk 263 = .ok (.iconst 4, 1) := by decide +kernel
theorem dL_walk_264 : decode cL_walk 264 = .ok (.if_icmp .ge 7, 3) := by decide +kernel
theorem dL_walk_267 : decode cL_walk 267 = .ok (.iconst 0, 1) := by decide +kernel
theorem dL_walk_268 : decode cL_walk 268 = .ok (.goto 15, 3) := by decide +kernel
theorem dL_walk_271 : decode cL_walk 271 = .ok (.iload 16, 2) := by decide +kernel
theorem dL_walk_273 : decode cL_walk 273 = .ok (.bipush 35, 2) := by decide +kernel
theorem dL_walk_275 : decode cL_walk 275 = .ok (.if_icmp .ge 7, 3) := by decide +kernel
theorem dL_walk_278 : decode cL_walk 278 = .ok (.iconst 1, 1) := by decide +kernel
theorem dL_walk_279 : decode cL_walk 279 = .ok (.goto 4, 3) := by decide +kernel
theorem dL_walk_282 : decode cL_walk 282 = .ok (.iconst 2, 1) := by decide +kernel
theorem dL_walk_283 : decode cL_walk 283 = .ok (.istore 18, 2) := by decide +kernel
theorem dL_walk_285 : decode cL_walk 285 = .ok (.iload 16, 2) := by decide +kernel
theorem dL_walk_287 : decode cL_walk 287 = .ok (.iconst 3, 1) := by decide +kernel
theorem dL_walk_288 : decode cL_walk 288 = .ok (.if_icmp .ge 8, 3) := by decide +kernel
theorem dL_walk_291 : decode cL_walk 291 = .ok (.iload 16, 2) := by decide +kernel
theorem dL_walk_293 : decode cL_walk 293 = .ok (.goto 47, 3) := by decide +kernel
theorem dL_walk_296 : decode cL_walk 296 = .ok (.iload 16, 2) := by decide +kernel
theorem dL_walk_298 : decode cL_walk 298 = .ok (.iconst 3, 1) := by decide +kernel
theorem dL_walk_299 : decode cL_walk 299 = .ok (.if_icmp .ne 8, 3) := by decide +kernel
theorem dL_walk_302 : decode cL_walk 302 = .ok (.iload 15, 2) := by decide +kernel
theorem dL_walk_304 : decode cL_walk 304 = .ok (.goto 36, 3) := by decide +kernel
theorem dL_walk_307 : decode cL_walk 307 = .ok (.iload 16, 2) := by decide +kernel
theorem dL_walk_309 : decode cL_walk 309 = .ok (.bipush 35, 2) := by decide +kernel
theorem dL_walk_311 : decode cL_walk 311 = .ok (.if_icmp .ge 11, 3) := by decide +kernel
theorem dL_walk_314 : decode cL_walk 314 = .ok (.iload 16, 2) := by decide +kernel
theorem dL_walk_316 : decode cL_walk 316 = .ok (.bipush 33, 2) := by decide +kernel
theorem dL_walk_318 : decode cL_walk 318 = .ok (.isub, 1) := by decide +kernel
theorem dL_walk_319 : decode cL_walk 319 = .ok (.goto 21, 3) := by decide +kernel
theorem dL_walk_322 : decode cL_walk 322 = .ok (.bipush 10, 2) := by decide +kernel
theorem dL_walk_324 : decode cL_walk 324 = .ok (.iload 16, 2) := by decide +kernel
theorem dL_walk_326 : decode cL_walk 326 = .ok (.bipush 35, 2) := by decide +kernel
theorem dL_walk_328 : decode cL_walk 328 = .ok (.isub, 1) := by decide +kernel
theorem dL_walk_329 : decode cL_walk 329 = .ok (.iconst 2, 1) := by decide +kernel
theorem dL_walk_330 : decode cL_walk 330 = .ok (.idiv, 1) := by decide +kernel
theorem dL_walk_331 : decode cL_walk 331 = .ok (.imul, 1) := by decide +kernel
theorem dL_walk_332 : decode cL_walk 332 = .ok (.iload 16, 2) := by decide +kernel
theorem dL_walk_334 : decode cL_walk 334 = .ok (.bipush 35, 2) := by decide +kernel
theorem dL_walk_336 : decode cL_walk 336 = .ok (.isub, 1) := by decide +kernel
theorem dL_walk_337 : decode cL_walk 337 = .ok (.iconst 2, 1) := by decide +kernel
theorem dL_walk_338 : decode cL_walk 338 = .ok (.irem, 1) := by decide +kernel
theorem dL_walk_339 : decode cL_walk 339 = .ok (.iadd, 1) := by decide +kernel
theorem dL_walk_340 : decode cL_walk 340 = .ok (.istore 19, 2) := by decide +kernel
theorem dL_walk_342 : decode cL_walk 342 = .ok (.iload 7, 2) := by decide +kernel
theorem dL_walk_344 : decode cL_walk 344 = .ok (.ifCond .ne 50, 3) := by decide +kernel
theorem dL_walk_347 : decode cL_walk 347 = .ok (.aload_n 0, 1) := by decide +kernel
theorem dL_walk_348 : decode cL_walk 348 = .ok (.iload 5, 2) := by decide +kernel
theorem dL_walk_350 : decode cL_walk 350 = .ok (.iload 6, 2) := by decide +kernel
theorem dL_walk_352 : decode cL_walk 352 = .ok (.iload 11, 2) := by decide +kernel
theorem dL_walk_354 : decode cL_walk 354 = .ok (.invokestatic 52, 3) := by decide +kernel
theorem dL_walk_357 : decode cL_walk 357 = .ok (.iload 18, 2) := by decide +kernel
theorem dL_walk_359 : decode cL_walk 359 = .ok (.if_icmp .ne 33, 3) := by decide +kernel
theorem dL_walk_362 : decode cL_walk 362 = .ok (.aload_n 0, 1) := by decide +kernel
theorem dL_walk_363 : decode cL_walk 363 = .ok (.iload 5, 2) := by decide +kernel
theorem dL_walk_365 : decode cL_walk 365 = .ok (.iload 6, 2) := by decide +kernel
theorem dL_walk_367 : decode cL_walk 367 = .ok (.iload 11, 2) := by decide +kernel
theorem dL_walk_369 : decode cL_walk 369 = .ok (.invokevirtual 56, 3) := by decide +kernel
theorem dL_walk_372 : decode cL_walk 372 = .ok (.iload 19, 2) := by decide +kernel
theorem dL_walk_374 : decode cL_walk 374 = .ok (.if_icmp .ne 18, 3) := by decide +kernel
theorem dL_walk_377 : decode cL_walk 377 = .ok (.aload_n 0, 1) := by decide +kernel
theorem dL_walk_378 : decode cL_walk 378 = .ok (.iload 5, 2) := by decide +kernel
theorem dL_walk_380 : decode cL_walk 380 = .ok (.iload 6, 2) := by decide +kernel
theorem dL_walk_382 : decode cL_walk 382 = .ok (.iload 11, 2) := by decide +kernel
theorem dL_walk_384 : decode cL_walk 384 = .ok (.invokevirtual 59, 3) := by decide +kernel
theorem dL_walk_387 : decode cL_walk 387 = .ok (.iload 13, 2) := by decide +kernel
theorem dL_walk_389 : decode cL_walk 389 = .ok (.if_icmp .eq 5, 3) := by decide +kernel
theorem dL_walk_392 : decode cL_walk 392 = .ok (.iconst (-1), 1) := by decide +kernel
theorem dL_walk_393 : decode cL_walk 393 = .ok (.ireturn, 1) := by decide +kernel
theorem dL_walk_394 : decode cL_walk 394 = .ok (.iload 12, 2) := by decide +kernel
theorem dL_walk_396 : decode cL_walk 396 = .ok (.iload 7, 2) := by decide +kernel
theorem dL_walk_398 : decode cL_walk 398 = .ok (.iconst 1, 1) := by decide +kernel
theorem dL_walk_399 : decode cL_walk 399 = .ok (.if_icmp .ne 16, 3) := by decide +kernel
theorem dL_walk_402 : decode cL_walk 402 = .ok (.iload 18, 2) := by decide +kernel
theorem dL_walk_404 : decode cL_walk 404 = .ok (.iconst 1, 1) := by decide +kernel
theorem dL_walk_405 : decode cL_walk 405 = .ok (.if_icmp .ne 10, 3) := by decide +kernel
theorem dL_walk_408 : decode cL_walk 408 = .ok (.iload 19, 2) := by decide +kernel
theorem dL_walk_410 : decode cL_walk 410 = .ok (.iload 8, 2) := by decide +kernel
theorem dL_walk_412 : decode cL_walk 412 = .ok (.if_icmp .eq 40, 3) := by decide +kernel
theorem dL_walk_415 : decode cL_walk 415 = .ok (.iload 7, 2) := by decide +kernel
theorem dL_walk_417 : decode cL_walk 417 = .ok (.iconst 2, 1) := by decide +kernel
theorem dL_walk_418 : decode cL_walk 418 = .ok (.if_icmp .ne 22, 3) := by decide +kernel
theorem dL_walk_421 : decode cL_walk 421 = .ok (.aload_n 3, 1) := by decide +kernel
theorem dL_walk_422 : decode cL_walk 422 = .ok (.aload 4, 2) := by decide +kernel
theorem dL_walk_424 : decode cL_walk 424 = .ok (.iload 13, 2) := by decide +kernel
theorem dL_walk_426 : decode cL_walk 426 = .ok (.invokestatic 24, 3) := by decide +kernel
theorem dL_walk_429 : decode cL_walk 429 = .ok (.iaload, 1) := by decide +kernel
theorem dL_walk_430 : decode cL_walk 430 = .ok (.aload 4, 2) := by decide +kernel
theorem dL_walk_432 : decode cL_walk 432 = .ok (.iconst 5, 1) := by decide +kernel
theorem dL_walk_433 : decode cL_walk 433 = .ok (.iload 5, 2) := by decide +kernel
theorem dL_walk_435 : decode cL_walk 435 = .ok (.iadd, 1) := by decide +kernel
theorem dL_walk_436 : decode cL_walk 436 = .ok (.iaload, 1) := by decide +kernel
theorem dL_walk_437 : decode cL_walk 437 = .ok (.if_icmp .lt 15, 3) := by decide +kernel
theorem dL_walk_440 : decode cL_walk 440 = .ok (.iload 7, 2) := by decide +kernel
theorem dL_walk_442 : decode cL_walk 442 = .ok (.iconst 3, 1) := by decide +kernel
theorem dL_walk_443 : decode cL_walk 443 = .ok (.if_icmp .ne 13, 3) := by decide +kernel
theorem dL_walk_446 : decode cL_walk 446 = .ok (.iload 18, 2) := by decide +kernel
theorem dL_walk_448 : decode cL_walk 448 = .ok (.iconst 2, 1) := by decide +kernel
theorem dL_walk_449 : decode cL_walk 449 = .ok (.if_icmp .ne 7, 3) := by decide +kernel
theorem dL_walk_452 : decode cL_walk 452 = .ok (.iconst 1, 1) := by decide +kernel
theorem dL_walk_453 : decode cL_walk 453 = .ok (.goto 4, 3) := by decide +kernel
theorem dL_walk_456 : decode cL_walk 456 = .ok (.iconst 0, 1) := by decide +kernel
theorem dL_walk_457 : decode cL_walk 457 = .ok (.iadd, 1) := by decide +kernel
theorem dL_walk_458 : decode cL_walk 458 = .ok (.istore 12, 2) := by decide +kernel
theorem dL_walk_460 : decode cL_walk 460 = .ok (.iinc 11 1, 3) := by decide +kernel
theorem dL_walk_463 : decode cL_walk 463 = .ok (.iload 16, 2) := by decide +kernel
theorem dL_walk_465 : decode cL_walk 465 = .ok (.invokestatic 17, 3) := by decide +kernel
theorem dL_walk_468 : decode cL_walk 468 = .ok (.ifCond .lt 69, 3) := by decide +kernel
theorem dL_walk_471 : decode cL_walk 471 = .ok (.iinc 10 1, 3) := by decide +kernel
theorem dL_walk_474 : decode cL_walk 474 = .ok (.aload 9, 2) := by decide +kernel
theorem dL_walk_476 : decode cL_walk 476 = .ok (.iconst 3, 1) := by decide +kernel
theorem dL_walk_477 : decode cL_walk 477 = .ok (.iload 10, 2) := by decide +kernel
theorem dL_walk_479 : decode cL_walk 479 = .ok (.imul, 1) := by decide +kernel
theorem dL_walk_480 : decode cL_walk 480 = .ok (.iload 16, 2) := by decide +kernel
theorem dL_walk_482 : decode cL_walk 482 = .ok (.invokestatic 17, 3) := by decide +kernel
theorem dL_walk_485 : decode cL_walk 485 = .ok (.iastore, 1) := by decide +kernel
theorem dL_walk_486 : decode cL_walk 486 = .ok (.aload 9, 2) := by decide +kernel
theorem dL_walk_488 : decode cL_walk 488 = .ok (.iconst 3, 1) := by decide +kernel
theorem dL_walk_489 : decode cL_walk 489 = .ok (.iload 10, 2) := by decide +kernel
theorem dL_walk_491 : decode cL_walk 491 = .ok (.imul, 1) := by decide +kernel
theorem dL_walk_492 : decode cL_walk 492 = .ok (.iconst 1, 1) := by decide +kernel
theorem dL_walk_493 : decode cL_walk 493 = .ok (.iadd, 1) := by decide +kernel
theorem dL_walk_494 : decode cL_walk 494 = .ok (.iconst 0, 1) := by decide +kernel
theorem dL_walk_495 : decode cL_walk 495 = .ok (.iastore, 1) := by decide +kernel
theorem dL_walk_496 : decode cL_walk 496 = .ok (.aload 9, 2) := by decide +kernel
theorem dL_walk_498 : decode cL_walk 498 = .ok (.iconst 3, 1) := by decide +kernel
theorem dL_walk_499 : decode cL_walk 499 = .ok (.iload 10, 2) := by decide +kernel
theorem dL_walk_501 : decode cL_walk 501 = .ok (.imul, 1) := by decide +kernel
theorem dL_walk_502 : decode cL_walk 502 = .ok (.iconst 2, 1) := by decide +kernel
theorem dL_walk_503 : decode cL_walk 503 = .ok (.iadd, 1) := by decide +kernel
theorem dL_walk_504 : decode cL_walk 504 = .ok (.iload 16, 2) := by decide +kernel
theorem dL_walk_506 : decode cL_walk 506 = .ok (.bipush 24, 2) := by decide +kernel
theorem dL_walk_508 : decode cL_walk 508 = .ok (.if_icmp .lt 8, 3) := by decide +kernel
theorem dL_walk_511 : decode cL_walk 511 = .ok (.iload 15, 2) := by decide +kernel
theorem dL_walk_513 : decode cL_walk 513 = .ok (.goto 23, 3) := by decide +kernel
theorem dL_walk_516 : decode cL_walk 516 = .ok (.iload 16, 2) := by decide +kernel
theorem dL_walk_518 : decode cL_walk 518 = .ok (.iconst 4, 1) := by decide +kernel
theorem dL_walk_519 : decode cL_walk 519 = .ok (.isub, 1) := by decide +kernel
theorem dL_walk_520 : decode cL_walk 520 = .ok (.iconst 4, 1) := by decide +kernel
theorem dL_walk_521 : decode cL_walk 521 = .ok (.irem, 1) := by decide +kernel
theorem dL_walk_522 : decode cL_walk 522 = .ok (.iconst 3, 1) := by decide +kernel
theorem dL_walk_523 : decode cL_walk 523 = .ok (.if_icmp .ne 7, 3) := by decide +kernel
theorem dL_walk_526 : decode cL_walk 526 = .ok (.iconst (-1), 1) := by decide +kernel
theorem dL_walk_527 : decode cL_walk 527 = .ok (.goto 9, 3) := by decide +kernel
theorem dL_walk_530 : decode cL_walk 530 = .ok (.iload 16, 2) := by decide +kernel
theorem dL_walk_532 : decode cL_walk 532 = .ok (.iconst 4, 1) := by decide +kernel
theorem dL_walk_533 : decode cL_walk 533 = .ok (.isub, 1) := by decide +kernel
theorem dL_walk_534 : decode cL_walk 534 = .ok (.iconst 4, 1) := by decide +kernel
theorem dL_walk_535 : decode cL_walk 535 = .ok (.irem, 1) := by decide +kernel
theorem dL_walk_536 : decode cL_walk 536 = .ok (.iastore, 1) := by decide +kernel
theorem dL_walk_537 : decode cL_walk 537 = .ok (.goto (-510), 3) := by decide +kernel
theorem dL_walk_540 : decode cL_walk 540 = .ok (.iload 7, 2) := by decide +kernel
theorem dL_walk_542 : decode cL_walk 542 = .ok (.ifCond .ne 8, 3) := by decide +kernel
theorem dL_walk_545 : decode cL_walk 545 = .ok (.iload 11, 2) := by decide +kernel
theorem dL_walk_547 : decode cL_walk 547 = .ok (.goto 5, 3) := by decide +kernel
theorem dL_walk_550 : decode cL_walk 550 = .ok (.iload 12, 2) := by decide +kernel
theorem dL_walk_552 : decode cL_walk 552 = .ok (.ireturn, 1) := by decide +kernel
theorem dL_stands_0 : decode cL_stands 0 = .ok (.iload_n 3, 1) := by decide +kernel
theorem dL_stands_1 : decode cL_stands 1 = .ok (.istore 4, 2) := by decide +kernel
theorem dL_stands_3 : decode cL_stands 3 = .ok (.iconst 0, 1) := by decide +kernel
theorem dL_stands_4 : decode cL_stands 4 = .ok (.istore 5, 2) := by decide +kernel
theorem dL_stands_6 : decode cL_stands 6 = .ok (.iload 5, 2) := by decide +kernel
theorem dL_stands_8 : decode cL_stands 8 = .ok (.iconst 4, 1) := by decide +kernel
theorem dL_stands_9 : decode cL_stands 9 = .ok (.if_icmp .ge 56, 3) := by decide +kernel
theorem dL_stands_12 : decode cL_stands 12 = .ok (.aload_n 1, 1) := by decide +kernel
theorem dL_stands_13 : decode cL_stands 13 = .ok (.aload_n 2, 1) := by decide +kernel
theorem dL_stands_14 : decode cL_stands 14 = .ok (.iload 4, 2) := by decide +kernel
theorem dL_stands_16 : decode cL_stands 16 = .ok (.invokestatic 24, 3) := by decide +kernel
theorem dL_stands_19 : decode cL_stands 19 = .ok (.iaload, 1) := by decide +kernel
theorem dL_stands_20 : decode cL_stands 20 = .ok (.iconst 1, 1) := by decide +kernel
theorem dL_stands_21 : decode cL_stands 21 = .ok (.if_icmp .ne 18, 3) := by decide +kernel
theorem dL_stands_24 : decode cL_stands 24 = .ok (.aload_n 0, 1) := by decide +kernel
theorem dL_stands_25 : decode cL_stands 25 = .ok (.aload_n 2, 1) := by decide +kernel
theorem dL_stands_26 : decode cL_stands 26 = .ok (.iload 4, 2) := by decide +kernel
theorem dL_stands_28 : decode cL_stands 28 = .ok (.invokestatic 24, 3) := by decide +kernel
theorem dL_stands_31 : decode cL_stands 31 = .ok (.laload, 1) := by decide +kernel
theorem dL_stands_32 : decode cL_stands 32 = .ok (.iconst 0, 1) := by decide +kernel
theorem dL_stands_33 : decode cL_stands 33 = .ok (.invokestatic 11, 3) := by decide +kernel
theorem dL_stands_36 : decode cL_stands 36 = .ok (.goto 4, 3) := by decide +kernel
theorem dL_stands_39 : decode cL_stands 39 = .ok (.iconst 0, 1) := by decide +kernel
theorem dL_stands_40 : decode cL_stands 40 = .ok (.istore 6, 2) := by decide +kernel
theorem dL_stands_42 : decode cL_stands 42 = .ok (.iload 6, 2) := by decide +kernel
theorem dL_stands_44 : decode cL_stands 44 = .ok (.bipush 45, 2) := by decide +kernel
theorem dL_stands_46 : decode cL_stands 46 = .ok (.if_icmp .ge 6, 3) := by decide +kernel
theorem dL_stands_49 : decode cL_stands 49 = .ok (.iload 4, 2) := by decide +kernel
theorem dL_stands_51 : decode cL_stands 51 = .ok (.ireturn, 1) := by decide +kernel
theorem dL_stands_52 : decode cL_stands 52 = .ok (.iload 6, 2) := by decide +kernel
theorem dL_stands_54 : decode cL_stands 54 = .ok (.bipush 45, 2) := by decide +kernel
theorem dL_stands_56 : decode cL_stands 56 = .ok (.isub, 1) := by decide +kernel
theorem dL_stands_57 : decode cL_stands 57 = .ok (.istore 4, 2) := by decide +kernel
theorem dL_stands_59 : decode cL_stands 59 = .ok (.iinc 5 1, 3) := by decide +kernel
theorem dL_stands_62 : decode cL_stands 62 = .ok (.goto (-56), 3) := by decide +kernel
theorem dL_stands_65 : decode cL_stands 65 = .ok (.iconst (-1), 1) := by decide +kernel
theorem dL_stands_66 : decode cL_stands 66 = .ok (.ireturn, 1) := by decide +kernel
theorem dL_arePages_0 : decode cL_arePages 0 = .ok (.iconst 5, 1) := by decide +kernel
theorem dL_arePages_1 : decode cL_arePages 1 = .ok (.newarray .int, 2) := by decide +kernel
theorem dL_arePages_3 : decode cL_arePages 3 = .ok (.astore 6, 2) := by decide +kernel
theorem dL_arePages_5 : decode cL_arePages 5 = .ok (.iconst 0, 1) := by decide +kernel
theorem dL_arePages_6 : decode cL_arePages 6 = .ok (.istore 7, 2) := by decide +kernel
theorem dL_arePages_8 : decode cL_arePages 8 = .ok (.iconst 1, 1) := by decide +kernel
theorem dL_arePages_9 : decode cL_arePages 9 = .ok (.istore 8, 2) := by decide +kernel
theorem dL_arePages_11 : decode cL_arePages 11 = .ok (.aload_n 1, 1) := by decide +kernel
theorem dL_arePages_12 : decode cL_arePages 12 = .ok (.aload_n 2, 1) := by decide +kernel
theorem dL_arePages_13 : decode cL_arePages 13 = .ok (.aload 4, 2) := by decide +kernel
theorem dL_arePages_15 : decode cL_arePages 15 = .ok (.iconst (-1), 1) := by decide +kernel
theorem dL_arePages_16 : decode cL_arePages 16 = .ok (.lconst 0, 1) := by decide +kernel
theorem dL_arePages_17 : decode cL_arePages 17 = .ok (.iconst 0, 1) := by decide +kernel
theorem dL_arePages_18 : decode cL_arePages 18 = .ok (.aload 6, 2) := by decide +kernel
theorem dL_arePages_20 : decode cL_arePages 20 = .ok (.invokestatic 36, 3) := by decide +kernel
theorem dL_arePages_23 : decode cL_arePages 23 = .ok (.iconst 0, 1) := by decide +kernel
theorem dL_arePages_24 : decode cL_arePages 24 = .ok (.istore 9, 2) := by decide +kernel
theorem dL_arePages_26 : decode cL_arePages 26 = .ok (.iload 9, 2) := by decide +kernel
theorem dL_arePages_28 : decode cL_arePages 28 = .ok (.iconst 5, 1) := by decide +kernel
theorem dL_arePages_29 : decode cL_arePages 29 = .ok (.if_icmp .ge 248, 3) := by decide +kernel
theorem dL_arePages_32 : decode cL_arePages 32 = .ok (.iload 8, 2) := by decide +kernel
theorem dL_arePages_34 : decode cL_arePages 34 = .ok (.ifCond .eq 243, 3) := by decide +kernel
theorem dL_arePages_37 : decode cL_arePages 37 = .ok (.aload_n 0, 1) := by decide +kernel
theorem dL_arePages_38 : decode cL_arePages 38 = .ok (.aload_n 1, 1) := by decide +kernel
theorem dL_arePages_39 : decode cL_arePages 39 = .ok (.aload_n 2, 1) := by decide +kernel
theorem dL_arePages_40 : decode cL_arePages 40 = .ok (.aload_n 3, 1) := by decide +kernel
theorem dL_arePages_41 : decode cL_arePages 41 = .ok (.aload 4, 2) := by decide +kernel
theorem dL_arePages_43 : decode cL_arePages 43 = .ok (.iload 9, 2) := by decide +kernel
theorem dL_arePages_45 : decode cL_arePages 45 = .ok (.iload 5, 2) := by decide +kernel
theorem dL_arePages_47 : decode cL_arePages 47 = .ok (.iconst 0, 1) := by decide +kernel
theorem dL_arePages_48 : decode cL_arePages 48 = .ok (.iconst 0, 1) := by decide +kernel
theorem dL_arePages_49 : decode cL_arePages 49 = .ok (.invokestatic 62, 3) := by decide +kernel
theorem dL_arePages_52 : decode cL_arePages 52 = .ok (.istore 10, 2) := by decide +kernel
theorem dL_arePages_54 : decode cL_arePages 54 = .ok (.aload_n 0, 1) := by decide +kernel
theorem dL_arePages_55 : decode cL_arePages 55 = .ok (.aload_n 1, 1) := by decide +kernel
theorem dL_arePages_56 : decode cL_arePages 56 = .ok (.aload_n 2, 1) := by decide +kernel
theorem dL_arePages_57 : decode cL_arePages 57 = .ok (.aload_n 3, 1) := by decide +kernel
theorem dL_arePages_58 : decode cL_arePages 58 = .ok (.aload 4, 2) := by decide +kernel
theorem dL_arePages_60 : decode cL_arePages 60 = .ok (.iload 9, 2) := by decide +kernel
theorem dL_arePages_62 : decode cL_arePages 62 = .ok (.iconst (-1), 1) := by decide +kernel
theorem dL_arePages_63 : decode cL_arePages 63 = .ok (.iconst 2, 1) := by decide +kernel
theorem dL_arePages_64 : decode cL_arePages 64 = .ok (.iconst 0, 1) := by decide +kernel
theorem dL_arePages_65 : decode cL_arePages 65 = .ok (.invokestatic 62, 3) := by decide +kernel
theorem dL_arePages_68 : decode cL_arePages 68 = .ok (.istore 11, 2) := by decide +kernel
theorem dL_arePages_70 : decode cL_arePages 70 = .ok (.iload 7, 2) := by decide +kernel
theorem dL_arePages_72 : decode cL_arePages 72 = .ok (.iload 11, 2) := by decide +kernel
theorem dL_arePages_74 : decode cL_arePages 74 = .ok (.ifCond .le 7, 3) := by decide +kernel
theorem dL_arePages_77 : decode cL_arePages 77 = .ok (.iconst 1, 1) := by decide +kernel
theorem dL_arePages_78 : decode cL_arePages 78 = .ok (.goto 4, 3) := by decide +kernel
theorem dL_arePages_81 : decode cL_arePages 81 = .ok (.iconst 0, 1) := by decide +kernel
theorem dL_arePages_82 : decode cL_arePages 82 = .ok (.iadd, 1) := by decide +kernel
theorem dL_arePages_83 : decode cL_arePages 83 = .ok (.istore 7, 2) := by decide +kernel
theorem dL_arePages_85 : decode cL_arePages 85 = .ok (.aload_n 0, 1) := by decide +kernel
theorem dL_arePages_86 : decode cL_arePages 86 = .ok (.iload 9, 2) := by decide +kernel
theorem dL_arePages_88 : decode cL_arePages 88 = .ok (.invokevirtual 66, 3) := by decide +kernel
theorem dL_arePages_91 : decode cL_arePages 91 = .ok (.aload 4, 2) := by decide +kernel
theorem dL_arePages_93 : decode cL_arePages 93 = .ok (.iload 9, 2) := by decide +kernel
theorem dL_arePages_95 : decode cL_arePages 95 = .ok (.iaload, 1) := by decide +kernel
theorem dL_arePages_96 : decode cL_arePages 96 = .ok (.if_icmp .ne 172, 3) := by decide +kernel
theorem dL_arePages_99 : decode cL_arePages 99 = .ok (.aload_n 0, 1) := by decide +kernel
theorem dL_arePages_100 : decode cL_arePages 100 = .ok (.iload 9, 2) := by decide +kernel
theorem dL_arePages_102 : decode cL_arePages 102 = .ok (.invokevirtual 69, 3) := by decide +kernel
theorem dL_arePages_105 : decode cL_arePages 105 = .ok (.aload_n 3, 1) := by decide +kernel
theorem dL_arePages_106 : decode cL_arePages 106 = .ok (.aload 4, 2) := by decide +kernel
theorem dL_arePages_108 : decode cL_arePages 108 = .ok (.iload 9, 2) := by decide +kernel
theorem dL_arePages_110 : decode cL_arePages 110 = .ok (.invokestatic 24, 3) := by decide +kernel
theorem dL_arePages_113 : decode cL_arePages 113 = .ok (.iaload, 1) := by decide +kernel
theorem dL_arePages_114 : decode cL_arePages 114 = .ok (.if_icmp .ne 154, 3) := by decide +kernel
theorem dL_arePages_117 : decode cL_arePages 117 = .ok (.aload_n 0, 1) := by decide +kernel
theorem dL_arePages_118 : decode cL_arePages 118 = .ok (.iload 9, 2) := by decide +kernel
theorem dL_arePages_120 : decode cL_arePages 120 = .ok (.invokevirtual 72, 3) := by decide +kernel
theorem dL_arePages_123 : decode cL_arePages 123 = .ok (.aload_n 1, 1) := by decide +kernel
theorem dL_arePages_124 : decode cL_arePages 124 = .ok (.aload_n 2, 1) := by decide +kernel
theorem dL_arePages_125 : decode cL_arePages 125 = .ok (.aload 4, 2) := by decide +kernel
theorem dL_arePages_127 : decode cL_arePages 127 = .ok (.iload 9, 2) := by decide +kernel
theorem dL_arePages_129 : decode cL_arePages 129 = .ok (.invokestatic 32, 3) := by decide +kernel
theorem dL_arePages_132 : decode cL_arePages 132 = .ok (.if_icmp .ne 136, 3) := by decide +kernel
theorem dL_arePages_135 : decode cL_arePages 135 = .ok (.aload_n 0, 1) := by decide +kernel
theorem dL_arePages_136 : decode cL_arePages 136 = .ok (.iload 9, 2) := by decide +kernel
theorem dL_arePages_138 : decode cL_arePages 138 = .ok (.invokevirtual 74, 3) := by decide +kernel
theorem dL_arePages_141 : decode cL_arePages 141 = .ok (.aload_n 1, 1) := by decide +kernel
theorem dL_arePages_142 : decode cL_arePages 142 = .ok (.aload_n 2, 1) := by decide +kernel
theorem dL_arePages_143 : decode cL_arePages 143 = .ok (.aload 4, 2) := by decide +kernel
theorem dL_arePages_145 : decode cL_arePages 145 = .ok (.iload 9, 2) := by decide +kernel
theorem dL_arePages_147 : decode cL_arePages 147 = .ok (.iconst (-1), 1) := by decide +kernel
theorem dL_arePages_148 : decode cL_arePages 148 = .ok (.lconst 0, 1) := by decide +kernel
theorem dL_arePages_149 : decode cL_arePages 149 = .ok (.iconst 0, 1) := by decide +kernel
theorem dL_arePages_150 : decode cL_arePages 150 = .ok (.invokestatic 28, 3) := by decide +kernel
theorem dL_arePages_153 : decode cL_arePages 153 = .ok (.if_icmp .ne 115, 3) := by decide +kernel
theorem dL_arePages_156 : decode cL_arePages 156 = .ok (.aload_n 0, 1) := by decide +kernel
theorem dL_arePages_157 : decode cL_arePages 157 = .ok (.iload 9, 2) := by decide +kernel
theorem dL_arePages_159 : decode cL_arePages 159 = .ok (.invokevirtual 77, 3) := by decide +kernel
theorem dL_arePages_162 : decode cL_arePages 162 = .ok (.aload 6, 2) := by decide +kernel
theorem dL_arePages_164 : decode cL_arePages 164 = .ok (.iload 9, 2) := by decide +kernel
theorem dL_arePages_166 : decode cL_arePages 166 = .ok (.iaload, 1) := by decide +kernel
theorem dL_arePages_167 : decode cL_arePages 167 = .ok (.if_icmp .ne 101, 3) := by decide +kernel
theorem dL_arePages_170 : decode cL_arePages 170 = .ok (.aload_n 0, 1) := by decide +kernel
theorem dL_arePages_171 : decode cL_arePages 171 = .ok (.iload 9, 2) := by decide +kernel
theorem dL_arePages_173 : decode cL_arePages 173 = .ok (.iload 5, 2) := by decide +kernel
theorem dL_arePages_175 : decode cL_arePages 175 = .ok (.invokevirtual 80, 3) := by decide +kernel
theorem dL_arePages_178 : decode cL_arePages 178 = .ok (.iload 10, 2) := by decide +kernel
theorem dL_arePages_180 : decode cL_arePages 180 = .ok (.if_icmp .ne 88, 3) := by decide +kernel
theorem dL_arePages_183 : decode cL_arePages 183 = .ok (.aload_n 0, 1) := by decide +kernel
theorem dL_arePages_184 : decode cL_arePages 184 = .ok (.iload 9, 2) := by decide +kernel
theorem dL_arePages_186 : decode cL_arePages 186 = .ok (.iload 5, 2) := by decide +kernel
theorem dL_arePages_188 : decode cL_arePages 188 = .ok (.iload 10, 2) := by decide +kernel
theorem dL_arePages_190 : decode cL_arePages 190 = .ok (.invokestatic 52, 3) := by decide +kernel
theorem dL_arePages_193 : decode cL_arePages 193 = .ok (.bipush (-9), 2) := by decide +kernel
theorem dL_arePages_195 : decode cL_arePages 195 = .ok (.if_icmp .ne 73, 3) := by decide +kernel
theorem dL_arePages_198 : decode cL_arePages 198 = .ok (.aload_n 0, 1) := by decide +kernel
theorem dL_arePages_199 : decode cL_arePages 199 = .ok (.iload 9, 2) := by decide +kernel
theorem dL_arePages_201 : decode cL_arePages 201 = .ok (.iload 5, 2) := by decide +kernel
theorem dL_arePages_203 : decode cL_arePages 203 = .ok (.iconst (-1), 1) := by decide +kernel
theorem dL_arePages_204 : decode cL_arePages 204 = .ok (.invokestatic 52, 3) := by decide +kernel
theorem dL_arePages_207 : decode cL_arePages 207 = .ok (.bipush (-9), 2) := by decide +kernel
theorem dL_arePages_209 : decode cL_arePages 209 = .ok (.if_icmp .ne 59, 3) := by decide +kernel
theorem dL_arePages_212 : decode cL_arePages 212 = .ok (.aload_n 0, 1) := by decide +kernel
theorem dL_arePages_213 : decode cL_arePages 213 = .ok (.iload 9, 2) := by decide +kernel
theorem dL_arePages_215 : decode cL_arePages 215 = .ok (.invokevirtual 84, 3) := by decide +kernel
theorem dL_arePages_218 : decode cL_arePages 218 = .ok (.iload 11, 2) := by decide +kernel
theorem dL_arePages_220 : decode cL_arePages 220 = .ok (.if_icmp .ne 48, 3) := by decide +kernel
theorem dL_arePages_223 : decode cL_arePages 223 = .ok (.aload_n 0, 1) := by decide +kernel
theorem dL_arePages_224 : decode cL_arePages 224 = .ok (.iload 9, 2) := by decide +kernel
theorem dL_arePages_226 : decode cL_arePages 226 = .ok (.invokevirtual 87, 3) := by decide +kernel
theorem dL_arePages_229 : decode cL_arePages 229 = .ok (.aload_n 1, 1) := by decide +kernel
theorem dL_arePages_230 : decode cL_arePages 230 = .ok (.aload_n 2, 1) := by decide +kernel
theorem dL_arePages_231 : decode cL_arePages 231 = .ok (.aload 4, 2) := by decide +kernel
theorem dL_arePages_233 : decode cL_arePages 233 = .ok (.iload 9, 2) := by decide +kernel
theorem dL_arePages_235 : decode cL_arePages 235 = .ok (.invokestatic 90, 3) := by decide +kernel
theorem dL_arePages_238 : decode cL_arePages 238 = .ok (.if_icmp .ne 30, 3) := by decide +kernel
theorem dL_arePages_241 : decode cL_arePages 241 = .ok (.aload_n 0, 1) := by decide +kernel
theorem dL_arePages_242 : decode cL_arePages 242 = .ok (.iload 9, 2) := by decide +kernel
theorem dL_arePages_244 : decode cL_arePages 244 = .ok (.invokevirtual 93, 3) := by decide +kernel
theorem dL_arePages_247 : decode cL_arePages 247 = .ok (.aload_n 0, 1) := by decide +kernel
theorem dL_arePages_248 : decode cL_arePages 248 = .ok (.aload_n 1, 1) := by decide +kernel
theorem dL_arePages_249 : decode cL_arePages 249 = .ok (.aload_n 2, 1) := by decide +kernel
theorem dL_arePages_250 : decode cL_arePages 250 = .ok (.aload_n 3, 1) := by decide +kernel
theorem dL_arePages_251 : decode cL_arePages 251 = .ok (.aload 4, 2) := by decide +kernel
theorem dL_arePages_253 : decode cL_arePages 253 = .ok (.iload 9, 2) := by decide +kernel
theorem dL_arePages_255 : decode cL_arePages 255 = .ok (.iconst (-1), 1) := by decide +kernel
theorem dL_arePages_256 : decode cL_arePages 256 = .ok (.iconst 3, 1) := by decide +kernel
theorem dL_arePages_257 : decode cL_arePages 257 = .ok (.iconst 0, 1) := by decide +kernel
theorem dL_arePages_258 : decode cL_arePages 258 = .ok (.invokestatic 62, 3) := by decide +kernel
theorem dL_arePages_261 : decode cL_arePages 261 = .ok (.if_icmp .ne 7, 3) := by decide +kernel
theorem dL_arePages_264 : decode cL_arePages 264 = .ok (.iconst 1, 1) := by decide +kernel
theorem dL_arePages_265 : decode cL_arePages 265 = .ok (.goto 4, 3) := by decide +kernel
theorem dL_arePages_268 : decode cL_arePages 268 = .ok (.iconst 0, 1) := by decide +kernel
theorem dL_arePages_269 : decode cL_arePages 269 = .ok (.istore 8, 2) := by decide +kernel
theorem dL_arePages_271 : decode cL_arePages 271 = .ok (.iinc 9 1, 3) := by decide +kernel
theorem dL_arePages_274 : decode cL_arePages 274 = .ok (.goto (-248), 3) := by decide +kernel
theorem dL_arePages_277 : decode cL_arePages 277 = .ok (.iload 8, 2) := by decide +kernel
theorem dL_arePages_279 : decode cL_arePages 279 = .ok (.ifCond .eq 16, 3) := by decide +kernel
theorem dL_arePages_282 : decode cL_arePages 282 = .ok (.aload_n 0, 1) := by decide +kernel
theorem dL_arePages_283 : decode cL_arePages 283 = .ok (.invokevirtual 96, 3) := by decide +kernel
theorem dL_arePages_286 : decode cL_arePages 286 = .ok (.iload 7, 2) := by decide +kernel
theorem dL_arePages_288 : decode cL_arePages 288 = .ok (.if_icmp .ne 7, 3) := by decide +kernel
theorem dL_arePages_291 : decode cL_arePages 291 = .ok (.iconst 1, 1) := by decide +kernel
theorem dL_arePages_292 : decode cL_arePages 292 = .ok (.goto 4, 3) := by decide +kernel
theorem dL_arePages_295 : decode cL_arePages 295 = .ok (.iconst 0, 1) := by decide +kernel
theorem dL_arePages_296 : decode cL_arePages 296 = .ok (.ireturn, 1) := by decide +kernel
theorem dL_areLinks_0 : decode cL_areLinks 0 = .ok (.iconst 5, 1) := by decide +kernel
theorem dL_areLinks_1 : decode cL_areLinks 1 = .ok (.newarray .int, 2) := by decide +kernel
theorem dL_areLinks_3 : decode cL_areLinks 3 = .ok (.astore 5, 2) := by decide +kernel
theorem dL_areLinks_5 : decode cL_areLinks 5 = .ok (.iconst 1, 1) := by decide +kernel
theorem dL_areLinks_6 : decode cL_areLinks 6 = .ok (.istore 6, 2) := by decide +kernel
theorem dL_areLinks_8 : decode cL_areLinks 8 = .ok (.iconst 0, 1) := by decide +kernel
theorem dL_areLinks_9 : decode cL_areLinks 9 = .ok (.istore 7, 2) := by decide +kernel
theorem dL_areLinks_11 : decode cL_areLinks 11 = .ok (.iload 7, 2) := by decide +kernel
theorem dL_areLinks_13 : decode cL_areLinks 13 = .ok (.iconst 5, 1) := by decide +kernel
theorem dL_areLinks_14 : decode cL_areLinks 14 = .ok (.if_icmp .ge 239, 3) := by decide +kernel
theorem dL_areLinks_17 : decode cL_areLinks 17 = .ok (.iload 6, 2) := by decide +kernel
theorem dL_areLinks_19 : decode cL_areLinks 19 = .ok (.ifCond .eq 234, 3) := by decide +kernel
theorem dL_areLinks_22 : decode cL_areLinks 22 = .ok (.iconst 0, 1) := by decide +kernel
theorem dL_areLinks_23 : decode cL_areLinks 23 = .ok (.istore 8, 2) := by decide +kernel
theorem dL_areLinks_25 : decode cL_areLinks 25 = .ok (.iconst (-1), 1) := by decide +kernel
theorem dL_areLinks_26 : decode cL_areLinks 26 = .ok (.istore 9, 2) := by decide +kernel
theorem dL_areLinks_28 : decode cL_areLinks 28 = .ok (.aload_n 0, 1) := by decide +kernel
theorem dL_areLinks_29 : decode cL_areLinks 29 = .ok (.iload 7, 2) := by decide +kernel
theorem dL_areLinks_31 : decode cL_areLinks 31 = .ok (.iconst (-1), 1) := by decide +kernel
theorem dL_areLinks_32 : decode cL_areLinks 32 = .ok (.invokevirtual 80, 3) := by decide +kernel
theorem dL_areLinks_35 : decode cL_areLinks 35 = .ok (.istore 10, 2) := by decide +kernel
theorem dL_areLinks_37 : decode cL_areLinks 37 = .ok (.iconst 0, 1) := by decide +kernel
theorem dL_areLinks_38 : decode cL_areLinks 38 = .ok (.istore 11, 2) := by decide +kernel
theorem dL_areLinks_40 : decode cL_areLinks 40 = .ok (.iload 11, 2) := by decide +kernel
theorem dL_areLinks_42 : decode cL_areLinks 42 = .ok (.iload 10, 2) := by decide +kernel
theorem dL_areLinks_44 : decode cL_areLinks 44 = .ok (.if_icmp .ge 174, 3) := by decide +kernel
theorem dL_areLinks_47 : decode cL_areLinks 47 = .ok (.aload_n 0, 1) := by decide +kernel
theorem dL_areLinks_48 : decode cL_areLinks 48 = .ok (.iload 7, 2) := by decide +kernel
theorem dL_areLinks_50 : decode cL_areLinks 50 = .ok (.iconst (-1), 1) := by decide +kernel
theorem dL_areLinks_51 : decode cL_areLinks 51 = .ok (.iload 11, 2) := by decide +kernel
theorem dL_areLinks_53 : decode cL_areLinks 53 = .ok (.invokevirtual 44, 3) := by decide +kernel
theorem dL_areLinks_56 : decode cL_areLinks 56 = .ok (.iconst 2, 1) := by decide +kernel
theorem dL_areLinks_57 : decode cL_areLinks 57 = .ok (.if_icmp .ne 15, 3) := by decide +kernel
theorem dL_areLinks_60 : decode cL_areLinks 60 = .ok (.aload_n 0, 1) := by decide +kernel
theorem dL_areLinks_61 : decode cL_areLinks 61 = .ok (.iload 7, 2) := by decide +kernel
theorem dL_areLinks_63 : decode cL_areLinks 63 = .ok (.iconst (-1), 1) := by decide +kernel
theorem dL_areLinks_64 : decode cL_areLinks 64 = .ok (.iload 11, 2) := by decide +kernel
theorem dL_areLinks_66 : decode cL_areLinks 66 = .ok (.invokevirtual 56, 3) := by decide +kernel
theorem dL_areLinks_69 : decode cL_areLinks 69 = .ok (.goto 4, 3) := by decide +kernel
theorem dL_areLinks_72 : decode cL_areLinks 72 = .ok (.iconst (-1), 1) := by decide +kernel
theorem dL_areLinks_73 : decode cL_areLinks 73 = .ok (.istore 12, 2) := by decide +kernel
theorem dL_areLinks_75 : decode cL_areLinks 75 = .ok (.iload 12, 2) := by decide +kernel
theorem dL_areLinks_77 : decode cL_areLinks 77 = .ok (.ifCond .ge 7, 3) := by decide +kernel
theorem dL_areLinks_80 : decode cL_areLinks 80 = .ok (.iconst (-1), 1) := by decide +kernel
theorem dL_areLinks_81 : decode cL_areLinks 81 = .ok (.goto 15, 3) := by decide +kernel
theorem dL_areLinks_84 : decode cL_areLinks 84 = .ok (.aload_n 1, 1) := by decide +kernel
theorem dL_areLinks_85 : decode cL_areLinks 85 = .ok (.aload_n 2, 1) := by decide +kernel
theorem dL_areLinks_86 : decode cL_areLinks 86 = .ok (.aload 4, 2) := by decide +kernel
theorem dL_areLinks_88 : decode cL_areLinks 88 = .ok (.iload 12, 2) := by decide +kernel
theorem dL_areLinks_90 : decode cL_areLinks 90 = .ok (.bipush 10, 2) := by decide +kernel
theorem dL_areLinks_92 : decode cL_areLinks 92 = .ok (.idiv, 1) := by decide +kernel
theorem dL_areLinks_93 : decode cL_areLinks 93 = .ok (.invokestatic 90, 3) := by decide +kernel
theorem dL_areLinks_96 : decode cL_areLinks 96 = .ok (.istore 13, 2) := by decide +kernel
theorem dL_areLinks_98 : decode cL_areLinks 98 = .ok (.iload 13, 2) := by decide +kernel
theorem dL_areLinks_100 : decode cL_areLinks 100 = .ok (.ifCond .lt 28, 3) := by decide +kernel
theorem dL_areLinks_103 : decode cL_areLinks 103 = .ok (.aload_n 0, 1) := by decide +kernel
theorem dL_areLinks_104 : decode cL_areLinks 104 = .ok (.aload_n 1, 1) := by decide +kernel
theorem dL_areLinks_105 : decode cL_areLinks 105 = .ok (.aload_n 2, 1) := by decide +kernel
theorem dL_areLinks_106 : decode cL_areLinks 106 = .ok (.aload_n 3, 1) := by decide +kernel
theorem dL_areLinks_107 : decode cL_areLinks 107 = .ok (.aload 4, 2) := by decide +kernel
theorem dL_areLinks_109 : decode cL_areLinks 109 = .ok (.iload 13, 2) := by decide +kernel
theorem dL_areLinks_111 : decode cL_areLinks 111 = .ok (.iconst (-1), 1) := by decide +kernel
theorem dL_areLinks_112 : decode cL_areLinks 112 = .ok (.iconst 1, 1) := by decide +kernel
theorem dL_areLinks_113 : decode cL_areLinks 113 = .ok (.iload 12, 2) := by decide +kernel
theorem dL_areLinks_115 : decode cL_areLinks 115 = .ok (.bipush 10, 2) := by decide +kernel
theorem dL_areLinks_117 : decode cL_areLinks 117 = .ok (.irem, 1) := by decide +kernel
theorem dL_areLinks_118 : decode cL_areLinks 118 = .ok (.invokestatic 62, 3) := by decide +kernel
theorem dL_areLinks_121 : decode cL_areLinks 121 = .ok (.ifCond .le 7, 3) := by decide +kernel
theorem dL_areLinks_124 : decode cL_areLinks 124 = .ok (.iconst 1, 1) := by decide +kernel
theorem dL_areLinks_125 : decode cL_areLinks 125 = .ok (.goto 4, 3) := by decide +kernel
theorem dL_areLinks_128 : decode cL_areLinks 128 = .ok (.iconst 0, 1) := by decide +kernel
theorem dL_areLinks_129 : decode cL_areLinks 129 = .ok (.istore 14, 2) := by decide +kernel
theorem dL_areLinks_131 : decode cL_areLinks 131 = .ok (.iload 8, 2) := by decide +kernel
theorem dL_areLinks_133 : decode cL_areLinks 133 = .ok (.iload 12, 2) := by decide +kernel
theorem dL_areLinks_135 : decode cL_areLinks 135 = .ok (.ifCond .lt 12, 3) := by decide +kernel
theorem dL_areLinks_138 : decode cL_areLinks 138 = .ok (.iload 14, 2) := by decide +kernel
theorem dL_areLinks_140 : decode cL_areLinks 140 = .ok (.ifCond .ne 7, 3) := by decide +kernel
theorem dL_areLinks_143 : decode cL_areLinks 143 = .ok (.iconst 1, 1) := by decide +kernel
theorem dL_areLinks_144 : decode cL_areLinks 144 = .ok (.goto 4, 3) := by decide +kernel
theorem dL_areLinks_147 : decode cL_areLinks 147 = .ok (.iconst 0, 1) := by decide +kernel
theorem dL_areLinks_148 : decode cL_areLinks 148 = .ok (.iadd, 1) := by decide +kernel
theorem dL_areLinks_149 : decode cL_areLinks 149 = .ok (.istore 8, 2) := by decide +kernel
theorem dL_areLinks_151 : decode cL_areLinks 151 = .ok (.iload 12, 2) := by decide +kernel
theorem dL_areLinks_153 : decode cL_areLinks 153 = .ok (.ifCond .lt 18, 3) := by decide +kernel
theorem dL_areLinks_156 : decode cL_areLinks 156 = .ok (.iload 14, 2) := by decide +kernel
theorem dL_areLinks_158 : decode cL_areLinks 158 = .ok (.ifCond .ne 13, 3) := by decide +kernel
theorem dL_areLinks_161 : decode cL_areLinks 161 = .ok (.iload 9, 2) := by decide +kernel
theorem dL_areLinks_163 : decode cL_areLinks 163 = .ok (.ifCond .ge 8, 3) := by decide +kernel
theorem dL_areLinks_166 : decode cL_areLinks 166 = .ok (.iload 12, 2) := by decide +kernel
theorem dL_areLinks_168 : decode cL_areLinks 168 = .ok (.goto 5, 3) := by decide +kernel
theorem dL_areLinks_171 : decode cL_areLinks 171 = .ok (.iload 9, 2) := by decide +kernel
theorem dL_areLinks_173 : decode cL_areLinks 173 = .ok (.istore 9, 2) := by decide +kernel
theorem dL_areLinks_175 : decode cL_areLinks 175 = .ok (.iload 12, 2) := by decide +kernel
theorem dL_areLinks_177 : decode cL_areLinks 177 = .ok (.ifCond .lt 35, 3) := by decide +kernel
theorem dL_areLinks_180 : decode cL_areLinks 180 = .ok (.iload 14, 2) := by decide +kernel
theorem dL_areLinks_182 : decode cL_areLinks 182 = .ok (.ifCond .eq 30, 3) := by decide +kernel
theorem dL_areLinks_185 : decode cL_areLinks 185 = .ok (.aload 5, 2) := by decide +kernel
theorem dL_areLinks_187 : decode cL_areLinks 187 = .ok (.iload 13, 2) := by decide +kernel
theorem dL_areLinks_189 : decode cL_areLinks 189 = .ok (.dup2, 1) := by decide +kernel
theorem dL_areLinks_190 : decode cL_areLinks 190 = .ok (.iaload, 1) := by decide +kernel
theorem dL_areLinks_191 : decode cL_areLinks 191 = .ok (.iconst 1, 1) := by decide +kernel
theorem dL_areLinks_192 : decode cL_areLinks 192 = .ok (.iload 7, 2) := by decide +kernel
theorem dL_areLinks_194 : decode cL_areLinks 194 = .ok (.ishl, 1) := by decide +kernel
theorem dL_areLinks_195 : decode cL_areLinks 195 = .ok (.ior, 1) := by decide +kernel
theorem dL_areLinks_196 : decode cL_areLinks 196 = .ok (.iastore, 1) := by decide +kernel
theorem dL_areLinks_197 : decode cL_areLinks 197 = .ok (.aload 5, 2) := by decide +kernel
theorem dL_areLinks_199 : decode cL_areLinks 199 = .ok (.iload 12, 2) := by decide +kernel
theorem dL_areLinks_201 : decode cL_areLinks 201 = .ok (.bipush 10, 2) := by decide +kernel
theorem dL_areLinks_203 : decode cL_areLinks 203 = .ok (.idiv, 1) := by decide +kernel
theorem dL_areLinks_204 : decode cL_areLinks 204 = .ok (.dup2, 1) := by decide +kernel
theorem dL_areLinks_205 : decode cL_areLinks 205 = .ok (.iaload, 1) := by decide +kernel
theorem dL_areLinks_206 : decode cL_areLinks 206 = .ok (.iconst 1, 1) := by decide +kernel
theorem dL_areLinks_207 : decode cL_areLinks 207 = .ok (.iload 7, 2) := by decide +kernel
theorem dL_areLinks_209 : decode cL_areLinks 209 = .ok (.ishl, 1) := by decide +kernel
theorem dL_areLinks_210 : decode cL_areLinks 210 = .ok (.ior, 1) := by decide +kernel
theorem dL_areLinks_211 : decode cL_areLinks 211 = .ok (.iastore, 1) := by decide +kernel
theorem dL_areLinks_212 : decode cL_areLinks 212 = .ok (.iinc 11 1, 3) := by decide +kernel
theorem dL_areLinks_215 : decode cL_areLinks 215 = .ok (.goto (-175), 3) := by decide +kernel
theorem dL_areLinks_218 : decode cL_areLinks 218 = .ok (.aload_n 0, 1) := by decide +kernel
theorem dL_areLinks_219 : decode cL_areLinks 219 = .ok (.iload 7, 2) := by decide +kernel
theorem dL_areLinks_221 : decode cL_areLinks 221 = .ok (.invokevirtual 100, 3) := by decide +kernel
theorem dL_areLinks_224 : decode cL_areLinks 224 = .ok (.iload 8, 2) := by decide +kernel
theorem dL_areLinks_226 : decode cL_areLinks 226 = .ok (.if_icmp .ne 18, 3) := by decide +kernel
theorem dL_areLinks_229 : decode cL_areLinks 229 = .ok (.aload_n 0, 1) := by decide +kernel
theorem dL_areLinks_230 : decode cL_areLinks 230 = .ok (.iload 7, 2) := by decide +kernel
theorem dL_areLinks_232 : decode cL_areLinks 232 = .ok (.invokevirtual 103, 3) := by decide +kernel
theorem dL_areLinks_235 : decode cL_areLinks 235 = .ok (.iload 9, 2) := by decide +kernel
theorem dL_areLinks_237 : decode cL_areLinks 237 = .ok (.if_icmp .ne 7, 3) := by decide +kernel
theorem dL_areLinks_240 : decode cL_areLinks 240 = .ok (.iconst 1, 1) := by decide +kernel
theorem dL_areLinks_241 : decode cL_areLinks 241 = .ok (.goto 4, 3) := by decide +kernel
theorem dL_areLinks_244 : decode cL_areLinks 244 = .ok (.iconst 0, 1) := by decide +kernel
theorem dL_areLinks_245 : decode cL_areLinks 245 = .ok (.istore 6, 2) := by decide +kernel
theorem dL_areLinks_247 : decode cL_areLinks 247 = .ok (.iinc 7 1, 3) := by decide +kernel
theorem dL_areLinks_250 : decode cL_areLinks 250 = .ok (.goto (-239), 3) := by decide +kernel
theorem dL_areLinks_253 : decode cL_areLinks 253 = .ok (.iconst 0, 1) := by decide +kernel
theorem dL_areLinks_254 : decode cL_areLinks 254 = .ok (.istore 7, 2) := by decide +kernel
theorem dL_areLinks_256 : decode cL_areLinks 256 = .ok (.iload 7, 2) := by decide +kernel
theorem dL_areLinks_258 : decode cL_areLinks 258 = .ok (.iconst 5, 1) := by decide +kernel
theorem dL_areLinks_259 : decode cL_areLinks 259 = .ok (.if_icmp .ge 35, 3) := by decide +kernel
theorem dL_areLinks_262 : decode cL_areLinks 262 = .ok (.iload 6, 2) := by decide +kernel
theorem dL_areLinks_264 : decode cL_areLinks 264 = .ok (.ifCond .eq 30, 3) := by decide +kernel
theorem dL_areLinks_267 : decode cL_areLinks 267 = .ok (.aload_n 0, 1) := by decide +kernel
theorem dL_areLinks_268 : decode cL_areLinks 268 = .ok (.iload 7, 2) := by decide +kernel
theorem dL_areLinks_270 : decode cL_areLinks 270 = .ok (.invokevirtual 106, 3) := by decide +kernel
theorem dL_areLinks_273 : decode cL_areLinks 273 = .ok (.aload 5, 2) := by decide +kernel
theorem dL_areLinks_275 : decode cL_areLinks 275 = .ok (.iload 7, 2) := by decide +kernel
theorem dL_areLinks_277 : decode cL_areLinks 277 = .ok (.iaload, 1) := by decide +kernel
theorem dL_areLinks_278 : decode cL_areLinks 278 = .ok (.if_icmp .ne 7, 3) := by decide +kernel
theorem dL_areLinks_281 : decode cL_areLinks 281 = .ok (.iconst 1, 1) := by decide +kernel
theorem dL_areLinks_282 : decode cL_areLinks 282 = .ok (.goto 4, 3) := by decide +kernel
theorem dL_areLinks_285 : decode cL_areLinks 285 = .ok (.iconst 0, 1) := by decide +kernel
theorem dL_areLinks_286 : decode cL_areLinks 286 = .ok (.istore 6, 2) := by decide +kernel
theorem dL_areLinks_288 : decode cL_areLinks 288 = .ok (.iinc 7 1, 3) := by decide +kernel
theorem dL_areLinks_291 : decode cL_areLinks 291 = .ok (.goto (-35), 3) := by decide +kernel
theorem dL_areLinks_294 : decode cL_areLinks 294 = .ok (.iload 6, 2) := by decide +kernel
theorem dL_areLinks_296 : decode cL_areLinks 296 = .ok (.ireturn, 1) := by decide +kernel
theorem dL_added_0 : decode cL_added 0 = .ok (.iload_n 1, 1) := by decide +kernel
theorem dL_added_1 : decode cL_added 1 = .ok (.iconst 3, 1) := by decide +kernel
theorem dL_added_2 : decode cL_added 2 = .ok (.if_icmp .ge 11, 3) := by decide +kernel
theorem dL_added_5 : decode cL_added 5 = .ok (.aload_n 0, 1) := by decide +kernel
theorem dL_added_6 : decode cL_added 6 = .ok (.iload_n 1, 1) := by decide +kernel
theorem dL_added_7 : decode cL_added 7 = .ok (.invokevirtual 109, 3) := by decide +kernel
theorem dL_added_10 : decode cL_added 10 = .ok (.goto 148, 3) := by decide +kernel
theorem dL_added_13 : decode cL_added 13 = .ok (.iload_n 1, 1) := by decide +kernel
theorem dL_added_14 : decode cL_added 14 = .ok (.iconst 3, 1) := by decide +kernel
theorem dL_added_15 : decode cL_added 15 = .ok (.if_icmp .ne 10, 3) := by decide +kernel
theorem dL_added_18 : decode cL_added 18 = .ok (.aload_n 0, 1) := by decide +kernel
theorem dL_added_19 : decode cL_added 19 = .ok (.invokevirtual 112, 3) := by decide +kernel
theorem dL_added_22 : decode cL_added 22 = .ok (.goto 136, 3) := by decide +kernel
theorem dL_added_25 : decode cL_added 25 = .ok (.iload_n 1, 1) := by decide +kernel
theorem dL_added_26 : decode cL_added 26 = .ok (.bipush 24, 2) := by decide +kernel
theorem dL_added_28 : decode cL_added 28 = .ok (.if_icmp .ge 33, 3) := by decide +kernel
theorem dL_added_31 : decode cL_added 31 = .ok (.aload_n 0, 1) := by decide +kernel
theorem dL_added_32 : decode cL_added 32 = .ok (.iload_n 1, 1) := by decide +kernel
theorem dL_added_33 : decode cL_added 33 = .ok (.iconst 4, 1) := by decide +kernel
theorem dL_added_34 : decode cL_added 34 = .ok (.isub, 1) := by decide +kernel
theorem dL_added_35 : decode cL_added 35 = .ok (.iconst 4, 1) := by decide +kernel
theorem dL_added_36 : decode cL_added 36 = .ok (.idiv, 1) := by decide +kernel
theorem dL_added_37 : decode cL_added 37 = .ok (.iload_n 1, 1) := by decide +kernel
theorem dL_added_38 : decode cL_added 38 = .ok (.iconst 4, 1) := by decide +kernel
theorem dL_added_39 : decode cL_added 39 = .ok (.isub, 1) := by decide +kernel
theorem dL_added_40 : decode cL_added 40 = .ok (.iconst 4, 1) := by decide +kernel
theorem dL_added_41 : decode cL_added 41 = .ok (.irem, 1) := by decide +kernel
theorem dL_added_42 : decode cL_added 42 = .ok (.iconst 3, 1) := by decide +kernel
theorem dL_added_43 : decode cL_added 43 = .ok (.if_icmp .ne 7, 3) := by decide +kernel
theorem dL_added_46 : decode cL_added 46 = .ok (.iconst (-1), 1) := by decide +kernel
theorem dL_added_47 : decode cL_added 47 = .ok (.goto 8, 3) := by decide +kernel
theorem dL_added_50 : decode cL_added 50 = .ok (.iload_n 1, 1) := by decide +kernel
theorem dL_added_51 : decode cL_added 51 = .ok (.iconst 4, 1) := by decide +kernel
theorem dL_added_52 : decode cL_added 52 = .ok (.isub, 1) := by decide +kernel
theorem dL_added_53 : decode cL_added 53 = .ok (.iconst 4, 1) := by decide +kernel
theorem dL_added_54 : decode cL_added 54 = .ok (.irem, 1) := by decide +kernel
theorem dL_added_55 : decode cL_added 55 = .ok (.invokevirtual 115, 3) := by decide +kernel
theorem dL_added_58 : decode cL_added 58 = .ok (.goto 100, 3) := by decide +kernel
theorem dL_added_61 : decode cL_added 61 = .ok (.iload_n 1, 1) := by decide +kernel
theorem dL_added_62 : decode cL_added 62 = .ok (.bipush 29, 2) := by decide +kernel
theorem dL_added_64 : decode cL_added 64 = .ok (.if_icmp .ge 14, 3) := by decide +kernel
theorem dL_added_67 : decode cL_added 67 = .ok (.aload_n 0, 1) := by decide +kernel
theorem dL_added_68 : decode cL_added 68 = .ok (.iload_n 1, 1) := by decide +kernel
theorem dL_added_69 : decode cL_added 69 = .ok (.bipush 24, 2) := by decide +kernel
theorem dL_added_71 : decode cL_added 71 = .ok (.isub, 1) := by decide +kernel
theorem dL_added_72 : decode cL_added 72 = .ok (.invokevirtual 118, 3) := by decide +kernel
theorem dL_added_75 : decode cL_added 75 = .ok (.goto 83, 3) := by decide +kernel
theorem dL_added_78 : decode cL_added 78 = .ok (.iload_n 1, 1) := by decide +kernel
theorem dL_added_79 : decode cL_added 79 = .ok (.bipush 32, 2) := by decide +kernel
theorem dL_added_81 : decode cL_added 81 = .ok (.if_icmp .ge 14, 3) := by decide +kernel
theorem dL_added_84 : decode cL_added 84 = .ok (.aload_n 0, 1) := by decide +kernel
theorem dL_added_85 : decode cL_added 85 = .ok (.iload_n 1, 1) := by decide +kernel
theorem dL_added_86 : decode cL_added 86 = .ok (.bipush 29, 2) := by decide +kernel
theorem dL_added_88 : decode cL_added 88 = .ok (.isub, 1) := by decide +kernel
theorem dL_added_89 : decode cL_added 89 = .ok (.invokevirtual 121, 3) := by decide +kernel
theorem dL_added_92 : decode cL_added 92 = .ok (.goto 66, 3) := by decide +kernel
theorem dL_added_95 : decode cL_added 95 = .ok (.iload_n 1, 1) := by decide +kernel
theorem dL_added_96 : decode cL_added 96 = .ok (.bipush 32, 2) := by decide +kernel
theorem dL_added_98 : decode cL_added 98 = .ok (.if_icmp .ne 10, 3) := by decide +kernel
theorem dL_added_101 : decode cL_added 101 = .ok (.aload_n 0, 1) := by decide +kernel
theorem dL_added_102 : decode cL_added 102 = .ok (.invokevirtual 124, 3) := by decide +kernel
theorem dL_added_105 : decode cL_added 105 = .ok (.goto 53, 3) := by decide +kernel
theorem dL_added_108 : decode cL_added 108 = .ok (.iload_n 1, 1) := by decide +kernel
theorem dL_added_109 : decode cL_added 109 = .ok (.bipush 35, 2) := by decide +kernel
theorem dL_added_111 : decode cL_added 111 = .ok (.if_icmp .ge 14, 3) := by decide +kernel
theorem dL_added_114 : decode cL_added 114 = .ok (.aload_n 0, 1) := by decide +kernel
theorem dL_added_115 : decode cL_added 115 = .ok (.iload_n 1, 1) := by decide +kernel
theorem dL_added_116 : decode cL_added 116 = .ok (.bipush 33, 2) := by decide +kernel
theorem dL_added_118 : decode cL_added 118 = .ok (.isub, 1) := by decide +kernel
theorem dL_added_119 : decode cL_added 119 = .ok (.invokevirtual 127, 3) := by decide +kernel
theorem dL_added_122 : decode cL_added 122 = .ok (.goto 36, 3) := by decide +kernel
theorem dL_added_125 : decode cL_added 125 = .ok (.iload_n 1, 1) := by decide +kernel
theorem dL_added_126 : decode cL_added 126 = .ok (.bipush 45, 2) := by decide +kernel
theorem dL_added_128 : decode cL_added 128 = .ok (.if_icmp .ge 22, 3) := by decide +kernel
theorem dL_added_131 : decode cL_added 131 = .ok (.aload_n 0, 1) := by decide +kernel
theorem dL_added_132 : decode cL_added 132 = .ok (.iload_n 1, 1) := by decide +kernel
theorem dL_added_133 : decode cL_added 133 = .ok (.bipush 35, 2) := by decide +kernel
theorem dL_added_135 : decode cL_added 135 = .ok (.isub, 1) := by decide +kernel
theorem dL_added_136 : decode cL_added 136 = .ok (.iconst 2, 1) := by decide +kernel
theorem dL_added_137 : decode cL_added 137 = .ok (.idiv, 1) := by decide +kernel
theorem dL_added_138 : decode cL_added 138 = .ok (.iload_n 1, 1) := by decide +kernel
theorem dL_added_139 : decode cL_added 139 = .ok (.bipush 35, 2) := by decide +kernel
theorem dL_added_141 : decode cL_added 141 = .ok (.isub, 1) := by decide +kernel
theorem dL_added_142 : decode cL_added 142 = .ok (.iconst 2, 1) := by decide +kernel
theorem dL_added_143 : decode cL_added 143 = .ok (.irem, 1) := by decide +kernel
theorem dL_added_144 : decode cL_added 144 = .ok (.invokevirtual 130, 3) := by decide +kernel
theorem dL_added_147 : decode cL_added 147 = .ok (.goto 11, 3) := by decide +kernel
theorem dL_added_150 : decode cL_added 150 = .ok (.aload_n 0, 1) := by decide +kernel
theorem dL_added_151 : decode cL_added 151 = .ok (.iload_n 1, 1) := by decide +kernel
theorem dL_added_152 : decode cL_added 152 = .ok (.bipush 45, 2) := by decide +kernel
theorem dL_added_154 : decode cL_added 154 = .ok (.isub, 1) := by decide +kernel
theorem dL_added_155 : decode cL_added 155 = .ok (.invokevirtual 133, 3) := by decide +kernel
theorem dL_added_158 : decode cL_added 158 = .ok (.ireturn, 1) := by decide +kernel
theorem dL_undone_0 : decode cL_undone 0 = .ok (.aload_n 0, 1) := by decide +kernel
theorem dL_undone_1 : decode cL_undone 1 = .ok (.iload_n 1, 1) := by decide +kernel
theorem dL_undone_2 : decode cL_undone 2 = .ok (.iload_n 2, 1) := by decide +kernel
theorem dL_undone_3 : decode cL_undone 3 = .ok (.invokevirtual 136, 3) := by decide +kernel
theorem dL_undone_6 : decode cL_undone 6 = .ok (.ireturn, 1) := by decide +kernel
theorem dL_undone_7 : decode cL_undone 7 = .ok (.astore_n 3, 1) := by decide +kernel
theorem dL_undone_8 : decode cL_undone 8 = .ok (.bipush (-9), 2) := by decide +kernel
theorem dL_undone_10 : decode cL_undone 10 = .ok (.ireturn, 1) := by decide +kernel
theorem dL_isEdited_0 : decode cL_isEdited 0 = .ok (.aload 5, 2) := by decide +kernel
theorem dL_isEdited_2 : decode cL_isEdited 2 = .ok (.iload 6, 2) := by decide +kernel
theorem dL_isEdited_4 : decode cL_isEdited 4 = .ok (.bipush 11, 2) := by decide +kernel
theorem dL_isEdited_6 : decode cL_isEdited 6 = .ok (.invokestatic 141, 3) := by decide +kernel
theorem dL_isEdited_9 : decode cL_isEdited 9 = .ok (.istore 9, 2) := by decide +kernel
theorem dL_isEdited_11 : decode cL_isEdited 11 = .ok (.iconst 0, 1) := by decide +kernel
theorem dL_isEdited_12 : decode cL_isEdited 12 = .ok (.istore 10, 2) := by decide +kernel
theorem dL_isEdited_14 : decode cL_isEdited 14 = .ok (.lconst 0, 1) := by decide +kernel
theorem dL_isEdited_15 : decode cL_isEdited 15 = .ok (.lstore 11, 2) := by decide +kernel
theorem dL_isEdited_17 : decode cL_isEdited 17 = .ok (.iconst 1, 1) := by decide +kernel
theorem dL_isEdited_18 : decode cL_isEdited 18 = .ok (.istore 13, 2) := by decide +kernel
theorem dL_isEdited_20 : decode cL_isEdited 20 = .ok (.iload 9, 2) := by decide +kernel
theorem dL_isEdited_22 : decode cL_isEdited 22 = .ok (.bipush 10, 2) := by decide +kernel
theorem dL_isEdited_24 : decode cL_isEdited 24 = .ok (.if_icmp .ne 7, 3) := by decide +kernel
theorem dL_isEdited_27 : decode cL_isEdited 27 = .ok (.iconst 1, 1) := by decide +kernel
theorem dL_isEdited_28 : decode cL_isEdited 28 = .ok (.goto 5, 3) := by decide +kernel
theorem dL_isEdited_31 : decode cL_isEdited 31 = .ok (.iload 9, 2) := by decide +kernel
theorem dL_isEdited_33 : decode cL_isEdited 33 = .ok (.istore 9, 2) := by decide +kernel
theorem dL_isEdited_35 : decode cL_isEdited 35 = .ok (.iconst 0, 1) := by decide +kernel
theorem dL_isEdited_36 : decode cL_isEdited 36 = .ok (.istore 14, 2) := by decide +kernel
theorem dL_isEdited_38 : decode cL_isEdited 38 = .ok (.iload 14, 2) := by decide +kernel
theorem dL_isEdited_40 : decode cL_isEdited 40 = .ok (.iload 9, 2) := by decide +kernel
theorem dL_isEdited_42 : decode cL_isEdited 42 = .ok (.if_icmp .ge 349, 3) := by decide +kernel
theorem dL_isEdited_45 : decode cL_isEdited 45 = .ok (.iload 13, 2) := by decide +kernel
theorem dL_isEdited_47 : decode cL_isEdited 47 = .ok (.ifCond .eq 344, 3) := by decide +kernel
theorem dL_isEdited_50 : decode cL_isEdited 50 = .ok (.aload 5, 2) := by decide +kernel
theorem dL_isEdited_52 : decode cL_isEdited 52 = .ok (.iload 6, 2) := by decide +kernel
theorem dL_isEdited_54 : decode cL_isEdited 54 = .ok (.iconst 1, 1) := by decide +kernel
theorem dL_isEdited_55 : decode cL_isEdited 55 = .ok (.iadd, 1) := by decide +kernel
theorem dL_isEdited_56 : decode cL_isEdited 56 = .ok (.iload 14, 2) := by decide +kernel
theorem dL_isEdited_58 : decode cL_isEdited 58 = .ok (.iadd, 1) := by decide +kernel
theorem dL_isEdited_59 : decode cL_isEdited 59 = .ok (.sipush 1000, 3) := by decide +kernel
theorem dL_isEdited_62 : decode cL_isEdited 62 = .ok (.invokestatic 141, 3) := by decide +kernel
theorem dL_isEdited_65 : decode cL_isEdited 65 = .ok (.istore 15, 2) := by decide +kernel
theorem dL_isEdited_67 : decode cL_isEdited 67 = .ok (.iload 15, 2) := by decide +kernel
theorem dL_isEdited_69 : decode cL_isEdited 69 = .ok (.bipush 16, 2) := by decide +kernel
theorem dL_isEdited_71 : decode cL_isEdited 71 = .ok (.irem, 1) := by decide +kernel
theorem dL_isEdited_72 : decode cL_isEdited 72 = .ok (.istore 16, 2) := by decide +kernel
theorem dL_isEdited_74 : decode cL_isEdited 74 = .ok (.iload 9, 2) := by decide +kernel
theorem dL_isEdited_76 : decode cL_isEdited 76 = .ok (.iconst 1, 1) := by decide +kernel
theorem dL_isEdited_77 : decode cL_isEdited 77 = .ok (.if_icmp .ne 23, 3) := by decide +kernel
theorem dL_isEdited_80 : decode cL_isEdited 80 = .ok (.iload 15, 2) := by decide +kernel
theorem dL_isEdited_82 : decode cL_isEdited 82 = .ok (.iconst 3, 1) := by decide +kernel
theorem dL_isEdited_83 : decode cL_isEdited 83 = .ok (.irem, 1) := by decide +kernel
theorem dL_isEdited_84 : decode cL_isEdited 84 = .ok (.ifCond .le 16, 3) := by decide +kernel
theorem dL_isEdited_87 : decode cL_isEdited 87 = .ok (.bipush 45, 2) := by decide +kernel
theorem dL_isEdited_89 : decode cL_isEdited 89 = .ok (.iload 15, 2) := by decide +kernel
theorem dL_isEdited_91 : decode cL_isEdited 91 = .ok (.bipush 16, 2) := by decide +kernel
theorem dL_isEdited_93 : decode cL_isEdited 93 = .ok (.idiv, 1) := by decide +kernel
theorem dL_isEdited_94 : decode cL_isEdited 94 = .ok (.iconst 5, 1) := by decide +kernel
theorem dL_isEdited_95 : decode cL_isEdited 95 = .ok (.irem, 1) := by decide +kernel
theorem dL_isEdited_96 : decode cL_isEdited 96 = .ok (.iadd, 1) := by decide +kernel
theorem dL_isEdited_97 : decode cL_isEdited 97 = .ok (.goto 152, 3) := by decide +kernel
theorem dL_isEdited_100 : decode cL_isEdited 100 = .ok (.iload 16, 2) := by decide +kernel
theorem dL_isEdited_102 : decode cL_isEdited 102 = .ok (.iconst 4, 1) := by decide +kernel
theorem dL_isEdited_103 : decode cL_isEdited 103 = .ok (.if_icmp .ge 13, 3) := by decide +kernel
theorem dL_isEdited_106 : decode cL_isEdited 106 = .ok (.iload 15, 2) := by decide +kernel
theorem dL_isEdited_108 : decode cL_isEdited 108 = .ok (.bipush 16, 2) := by decide +kernel
theorem dL_isEdited_110 : decode cL_isEdited 110 = .ok (.idiv, 1) := by decide +kernel
theorem dL_isEdited_111 : decode cL_isEdited 111 = .ok (.iconst 3, 1) := by decide +kernel
theorem dL_isEdited_112 : decode cL_isEdited 112 = .ok (.irem, 1) := by decide +kernel
theorem dL_isEdited_113 : decode cL_isEdited 113 = .ok (.goto 136, 3) := by decide +kernel
theorem dL_isEdited_116 : decode cL_isEdited 116 = .ok (.iload 16, 2) := by decide +kernel
theorem dL_isEdited_118 : decode cL_isEdited 118 = .ok (.iconst 4, 1) := by decide +kernel
theorem dL_isEdited_119 : decode cL_isEdited 119 = .ok (.if_icmp .ne 7, 3) := by decide +kernel
theorem dL_isEdited_122 : decode cL_isEdited 122 = .ok (.iconst 3, 1) := by decide +kernel
theorem dL_isEdited_123 : decode cL_isEdited 123 = .ok (.goto 126, 3) := by decide +kernel
theorem dL_isEdited_126 : decode cL_isEdited 126 = .ok (.iload 16, 2) := by decide +kernel
theorem dL_isEdited_128 : decode cL_isEdited 128 = .ok (.bipush 8, 2) := by decide +kernel
theorem dL_isEdited_130 : decode cL_isEdited 130 = .ok (.if_icmp .ge 16, 3) := by decide +kernel
theorem dL_isEdited_133 : decode cL_isEdited 133 = .ok (.iconst 4, 1) := by decide +kernel
theorem dL_isEdited_134 : decode cL_isEdited 134 = .ok (.iload 15, 2) := by decide +kernel
theorem dL_isEdited_136 : decode cL_isEdited 136 = .ok (.bipush 16, 2) := by decide +kernel
theorem dL_isEdited_138 : decode cL_isEdited 138 = .ok (.idiv, 1) := by decide +kernel
theorem dL_isEdited_139 : decode cL_isEdited 139 = .ok (.bipush 20, 2) := by decide +kernel
theorem dL_isEdited_141 : decode cL_isEdited 141 = .ok (.irem, 1) := by decide +kernel
theorem dL_isEdited_142 : decode cL_isEdited 142 = .ok (.iadd, 1) := by decide +kernel
theorem dL_isEdited_143 : decode cL_isEdited 143 = .ok (.goto 106, 3) := by decide +kernel
theorem dL_isEdited_146 : decode cL_isEdited 146 = .ok (.iload 16, 2) := by decide +kernel
theorem dL_isEdited_148 : decode cL_isEdited 148 = .ok (.bipush 8, 2) := by decide +kernel
theorem dL_isEdited_150 : decode cL_isEdited 150 = .ok (.if_icmp .ne 16, 3) := by decide +kernel
theorem dL_isEdited_153 : decode cL_isEdited 153 = .ok (.bipush 24, 2) := by decide +kernel
theorem dL_isEdited_155 : decode cL_isEdited 155 = .ok (.iload 15, 2) := by decide +kernel
theorem dL_isEdited_157 : decode cL_isEdited 157 = .ok (.bipush 16, 2) := by decide +kernel
theorem dL_isEdited_159 : decode cL_isEdited 159 = .ok (.idiv, 1) := by decide +kernel
theorem dL_isEdited_160 : decode cL_isEdited 160 = .ok (.iconst 5, 1) := by decide +kernel
theorem dL_isEdited_161 : decode cL_isEdited 161 = .ok (.irem, 1) := by decide +kernel
theorem dL_isEdited_162 : decode cL_isEdited 162 = .ok (.iadd, 1) := by decide +kernel
theorem dL_isEdited_163 : decode cL_isEdited 163 = .ok (.goto 86, 3) := by decide +kernel
theorem dL_isEdited_166 : decode cL_isEdited 166 = .ok (.iload 16, 2) := by decide +kernel
theorem dL_isEdited_168 : decode cL_isEdited 168 = .ok (.bipush 11, 2) := by decide +kernel
theorem dL_isEdited_170 : decode cL_isEdited 170 = .ok (.if_icmp .ge 16, 3) := by decide +kernel
theorem dL_isEdited_173 : decode cL_isEdited 173 = .ok (.bipush 29, 2) := by decide +kernel
theorem dL_isEdited_175 : decode cL_isEdited 175 = .ok (.iload 15, 2) := by decide +kernel
theorem dL_isEdited_177 : decode cL_isEdited 177 = .ok (.bipush 16, 2) := by decide +kernel
theorem dL_isEdited_179 : decode cL_isEdited 179 = .ok (.idiv, 1) := by decide +kernel
theorem dL_isEdited_180 : decode cL_isEdited 180 = .ok (.iconst 3, 1) := by decide +kernel
theorem dL_isEdited_181 : decode cL_isEdited 181 = .ok (.irem, 1) := by decide +kernel
theorem dL_isEdited_182 : decode cL_isEdited 182 = .ok (.iadd, 1) := by decide +kernel
theorem dL_isEdited_183 : decode cL_isEdited 183 = .ok (.goto 66, 3) := by decide +kernel
theorem dL_isEdited_186 : decode cL_isEdited 186 = .ok (.iload 16, 2) := by decide +kernel
theorem dL_isEdited_188 : decode cL_isEdited 188 = .ok (.bipush 11, 2) := by decide +kernel
theorem dL_isEdited_190 : decode cL_isEdited 190 = .ok (.if_icmp .ne 8, 3) := by decide +kernel
theorem dL_isEdited_193 : decode cL_isEdited 193 = .ok (.bipush 32, 2) := by decide +kernel
theorem dL_isEdited_195 : decode cL_isEdited 195 = .ok (.goto 54, 3) := by decide +kernel
theorem dL_isEdited_198 : decode cL_isEdited 198 = .ok (.iload 16, 2) := by decide +kernel
theorem dL_isEdited_200 : decode cL_isEdited 200 = .ok (.bipush 12, 2) := by decide +kernel
theorem dL_isEdited_202 : decode cL_isEdited 202 = .ok (.if_icmp .ne 16, 3) := by decide +kernel
theorem dL_isEdited_205 : decode cL_isEdited 205 = .ok (.bipush 33, 2) := by decide +kernel
theorem dL_isEdited_207 : decode cL_isEdited 207 = .ok (.iload 15, 2) := by decide +kernel
theorem dL_isEdited_209 : decode cL_isEdited 209 = .ok (.bipush 16, 2) := by decide +kernel
theorem dL_isEdited_211 : decode cL_isEdited 211 = .ok (.idiv, 1) := by decide +kernel
theorem dL_isEdited_212 : decode cL_isEdited 212 = .ok (.iconst 2, 1) := by decide +kernel
theorem dL_isEdited_213 : decode cL_isEdited 213 = .ok (.irem, 1) := by decide +kernel
theorem dL_isEdited_214 : decode cL_isEdited 214 = .ok (.iadd, 1) := by decide +kernel
theorem dL_isEdited_215 : decode cL_isEdited 215 = .ok (.goto 34, 3) := by decide +kernel
theorem dL_isEdited_218 : decode cL_isEdited 218 = .ok (.iload 16, 2) := by decide +kernel
theorem dL_isEdited_220 : decode cL_isEdited 220 = .ok (.bipush 15, 2) := by decide +kernel
theorem dL_isEdited_222 : decode cL_isEdited 222 = .ok (.if_icmp .ge 17, 3) := by decide +kernel
theorem dL_isEdited_225 : decode cL_isEdited 225 = .ok (.bipush 35, 2) := by decide +kernel
theorem dL_isEdited_227 : decode cL_isEdited 227 = .ok (.iload 15, 2) := by decide +kernel
theorem dL_isEdited_229 : decode cL_isEdited 229 = .ok (.bipush 16, 2) := by decide +kernel
theorem dL_isEdited_231 : decode cL_isEdited 231 = .ok (.idiv, 1) := by decide +kernel
theorem dL_isEdited_232 : decode cL_isEdited 232 = .ok (.bipush 10, 2) := by decide +kernel
theorem dL_isEdited_234 : decode cL_isEdited 234 = .ok (.irem, 1) := by decide +kernel
theorem dL_isEdited_235 : decode cL_isEdited 235 = .ok (.iadd, 1) := by decide +kernel
theorem dL_isEdited_236 : decode cL_isEdited 236 = .ok (.goto 13, 3) := by decide +kernel
theorem dL_isEdited_239 : decode cL_isEdited 239 = .ok (.bipush 45, 2) := by decide +kernel
theorem dL_isEdited_241 : decode cL_isEdited 241 = .ok (.iload 15, 2) := by decide +kernel
theorem dL_isEdited_243 : decode cL_isEdited 243 = .ok (.bipush 16, 2) := by decide +kernel
theorem dL_isEdited_245 : decode cL_isEdited 245 = .ok (.idiv, 1) := by decide +kernel
theorem dL_isEdited_246 : decode cL_isEdited 246 = .ok (.iconst 5, 1) := by decide +kernel
theorem dL_isEdited_247 : decode cL_isEdited 247 = .ok (.irem, 1) := by decide +kernel
theorem dL_isEdited_248 : decode cL_isEdited 248 = .ok (.iadd, 1) := by decide +kernel
theorem dL_isEdited_249 : decode cL_isEdited 249 = .ok (.istore 17, 2) := by decide +kernel
theorem dL_isEdited_251 : decode cL_isEdited 251 = .ok (.iload 10, 2) := by decide +kernel
theorem dL_isEdited_253 : decode cL_isEdited 253 = .ok (.iload 9, 2) := by decide +kernel
theorem dL_isEdited_255 : decode cL_isEdited 255 = .ok (.iload 14, 2) := by decide +kernel
theorem dL_isEdited_257 : decode cL_isEdited 257 = .ok (.isub, 1) := by decide +kernel
theorem dL_isEdited_258 : decode cL_isEdited 258 = .ok (.if_icmp .lt 8, 3) := by decide +kernel
theorem dL_isEdited_261 : decode cL_isEdited 261 = .ok (.bipush 32, 2) := by decide +kernel
theorem dL_isEdited_263 : decode cL_isEdited 263 = .ok (.goto 51, 3) := by decide +kernel
theorem dL_isEdited_266 : decode cL_isEdited 266 = .ok (.iload 17, 2) := by decide +kernel
theorem dL_isEdited_268 : decode cL_isEdited 268 = .ok (.bipush 29, 2) := by decide +kernel
theorem dL_isEdited_270 : decode cL_isEdited 270 = .ok (.if_icmp .lt 26, 3) := by decide +kernel
theorem dL_isEdited_273 : decode cL_isEdited 273 = .ok (.iload 17, 2) := by decide +kernel
theorem dL_isEdited_275 : decode cL_isEdited 275 = .ok (.bipush 32, 2) := by decide +kernel
theorem dL_isEdited_277 : decode cL_isEdited 277 = .ok (.if_icmp .ge 19, 3) := by decide +kernel
theorem dL_isEdited_280 : decode cL_isEdited 280 = .ok (.iload 10, 2) := by decide +kernel
theorem dL_isEdited_282 : decode cL_isEdited 282 = .ok (.iconst 2, 1) := by decide +kernel
theorem dL_isEdited_283 : decode cL_isEdited 283 = .ok (.iadd, 1) := by decide +kernel
theorem dL_isEdited_284 : decode cL_isEdited 284 = .ok (.iload 9, 2) := by decide +kernel
theorem dL_isEdited_286 : decode cL_isEdited 286 = .ok (.iload 14, 2) := by decide +kernel
theorem dL_isEdited_288 : decode cL_isEdited 288 = .ok (.isub, 1) := by decide +kernel
theorem dL_isEdited_289 : decode cL_isEdited 289 = .ok (.if_icmp .le 7, 3) := by decide +kernel
theorem dL_isEdited_292 : decode cL_isEdited 292 = .ok (.iconst 3, 1) := by decide +kernel
theorem dL_isEdited_293 : decode cL_isEdited 293 = .ok (.goto 21, 3) := by decide +kernel
theorem dL_isEdited_296 : decode cL_isEdited 296 = .ok (.iload 17, 2) := by decide +kernel
theorem dL_isEdited_298 : decode cL_isEdited 298 = .ok (.bipush 32, 2) := by decide +kernel
theorem dL_isEdited_300 : decode cL_isEdited 300 = .ok (.if_icmp .ne 12, 3) := by decide +kernel
theorem dL_isEdited_303 : decode cL_isEdited 303 = .ok (.iload 10, 2) := by decide +kernel
theorem dL_isEdited_305 : decode cL_isEdited 305 = .ok (.ifCond .ne 7, 3) := by decide +kernel
theorem dL_isEdited_308 : decode cL_isEdited 308 = .ok (.iconst 3, 1) := by decide +kernel
theorem dL_isEdited_309 : decode cL_isEdited 309 = .ok (.goto 5, 3) := by decide +kernel
theorem dL_isEdited_312 : decode cL_isEdited 312 = .ok (.iload 17, 2) := by decide +kernel
theorem dL_isEdited_314 : decode cL_isEdited 314 = .ok (.istore 17, 2) := by decide +kernel
theorem dL_isEdited_316 : decode cL_isEdited 316 = .ok (.iload 10, 2) := by decide +kernel
theorem dL_isEdited_318 : decode cL_isEdited 318 = .ok (.iload 17, 2) := by decide +kernel
theorem dL_isEdited_320 : decode cL_isEdited 320 = .ok (.bipush 29, 2) := by decide +kernel
theorem dL_isEdited_322 : decode cL_isEdited 322 = .ok (.if_icmp .lt 14, 3) := by decide +kernel
theorem dL_isEdited_325 : decode cL_isEdited 325 = .ok (.iload 17, 2) := by decide +kernel
theorem dL_isEdited_327 : decode cL_isEdited 327 = .ok (.bipush 32, 2) := by decide +kernel
theorem dL_isEdited_329 : decode cL_isEdited 329 = .ok (.if_icmp .ge 7, 3) := by decide +kernel
theorem dL_isEdited_332 : decode cL_isEdited 332 = .ok (.iconst 1, 1) := by decide +kernel
theorem dL_isEdited_333 : decode cL_isEdited 333 = .ok (.goto 15, 3) := by decide +kernel
theorem dL_isEdited_336 : decode cL_isEdited 336 = .ok (.iload 17, 2) := by decide +kernel
theorem dL_isEdited_338 : decode cL_isEdited 338 = .ok (.bipush 32, 2) := by decide +kernel
theorem dL_isEdited_340 : decode cL_isEdited 340 = .ok (.if_icmp .ne 7, 3) := by decide +kernel
theorem dL_isEdited_343 : decode cL_isEdited 343 = .ok (.iconst (-1), 1) := by decide +kernel
theorem dL_isEdited_344 : decode cL_isEdited 344 = .ok (.goto 4, 3) := by decide +kernel
theorem dL_isEdited_347 : decode cL_isEdited 347 = .ok (.iconst 0, 1) := by decide +kernel
theorem dL_isEdited_348 : decode cL_isEdited 348 = .ok (.iadd, 1) := by decide +kernel
theorem dL_isEdited_349 : decode cL_isEdited 349 = .ok (.istore 10, 2) := by decide +kernel
theorem dL_isEdited_351 : decode cL_isEdited 351 = .ok (.lload 11, 2) := by decide +kernel
theorem dL_isEdited_353 : decode cL_isEdited 353 = .ok (.iload 17, 2) := by decide +kernel
theorem dL_isEdited_355 : decode cL_isEdited 355 = .ok (.i2l, 1) := by decide +kernel
theorem dL_isEdited_356 : decode cL_isEdited 356 = .ok (.bipush 6, 2) := by decide +kernel
theorem dL_isEdited_358 : decode cL_isEdited 358 = .ok (.iload 14, 2) := by decide +kernel
theorem dL_isEdited_360 : decode cL_isEdited 360 = .ok (.imul, 1) := by decide +kernel
theorem dL_isEdited_361 : decode cL_isEdited 361 = .ok (.lshl, 1) := by decide +kernel
theorem dL_isEdited_362 : decode cL_isEdited 362 = .ok (.lor, 1) := by decide +kernel
theorem dL_isEdited_363 : decode cL_isEdited 363 = .ok (.lstore 11, 2) := by decide +kernel
theorem dL_isEdited_365 : decode cL_isEdited 365 = .ok (.aload_n 0, 1) := by decide +kernel
theorem dL_isEdited_366 : decode cL_isEdited 366 = .ok (.iload 17, 2) := by decide +kernel
theorem dL_isEdited_368 : decode cL_isEdited 368 = .ok (.invokestatic 145, 3) := by decide +kernel
theorem dL_isEdited_371 : decode cL_isEdited 371 = .ok (.iload 14, 2) := by decide +kernel
theorem dL_isEdited_373 : decode cL_isEdited 373 = .ok (.iconst 1, 1) := by decide +kernel
theorem dL_isEdited_374 : decode cL_isEdited 374 = .ok (.iadd, 1) := by decide +kernel
theorem dL_isEdited_375 : decode cL_isEdited 375 = .ok (.if_icmp .ne 7, 3) := by decide +kernel
theorem dL_isEdited_378 : decode cL_isEdited 378 = .ok (.iconst 1, 1) := by decide +kernel
theorem dL_isEdited_379 : decode cL_isEdited 379 = .ok (.goto 4, 3) := by decide +kernel
theorem dL_isEdited_382 : decode cL_isEdited 382 = .ok (.iconst 0, 1) := by decide +kernel
theorem dL_isEdited_383 : decode cL_isEdited 383 = .ok (.istore 13, 2) := by decide +kernel
theorem dL_isEdited_385 : decode cL_isEdited 385 = .ok (.iinc 14 1, 3) := by decide +kernel
theorem dL_isEdited_388 : decode cL_isEdited 388 = .ok (.goto (-350), 3) := by decide +kernel
theorem dL_isEdited_391 : decode cL_isEdited 391 = .ok (.aload_n 1, 1) := by decide +kernel
theorem dL_isEdited_392 : decode cL_isEdited 392 = .ok (.aload_n 2, 1) := by decide +kernel
theorem dL_isEdited_393 : decode cL_isEdited 393 = .ok (.aload_n 3, 1) := by decide +kernel
theorem dL_isEdited_394 : decode cL_isEdited 394 = .ok (.aload 4, 2) := by decide +kernel
theorem dL_isEdited_396 : decode cL_isEdited 396 = .ok (.iload 7, 2) := by decide +kernel
theorem dL_isEdited_398 : decode cL_isEdited 398 = .ok (.iload 8, 2) := by decide +kernel
theorem dL_isEdited_400 : decode cL_isEdited 400 = .ok (.lload 11, 2) := by decide +kernel
theorem dL_isEdited_402 : decode cL_isEdited 402 = .ok (.iload 9, 2) := by decide +kernel
theorem dL_isEdited_404 : decode cL_isEdited 404 = .ok (.iconst 3, 1) := by decide +kernel
theorem dL_isEdited_405 : decode cL_isEdited 405 = .ok (.invokestatic 149, 3) := by decide +kernel
theorem dL_isEdited_408 : decode cL_isEdited 408 = .ok (.istore 14, 2) := by decide +kernel
theorem dL_isEdited_410 : decode cL_isEdited 410 = .ok (.iload 14, 2) := by decide +kernel
theorem dL_isEdited_412 : decode cL_isEdited 412 = .ok (.ifCond .ne 51, 3) := by decide +kernel
theorem dL_isEdited_415 : decode cL_isEdited 415 = .ok (.aload 4, 2) := by decide +kernel
theorem dL_isEdited_417 : decode cL_isEdited 417 = .ok (.iload 8, 2) := by decide +kernel
theorem dL_isEdited_419 : decode cL_isEdited 419 = .ok (.dup2, 1) := by decide +kernel
theorem dL_isEdited_420 : decode cL_isEdited 420 = .ok (.iaload, 1) := by decide +kernel
theorem dL_isEdited_421 : decode cL_isEdited 421 = .ok (.iconst 1, 1) := by decide +kernel
theorem dL_isEdited_422 : decode cL_isEdited 422 = .ok (.iadd, 1) := by decide +kernel
theorem dL_isEdited_423 : decode cL_isEdited 423 = .ok (.iastore, 1) := by decide +kernel
theorem dL_isEdited_424 : decode cL_isEdited 424 = .ok (.aload_n 1, 1) := by decide +kernel
theorem dL_isEdited_425 : decode cL_isEdited 425 = .ok (.aload 4, 2) := by decide +kernel
theorem dL_isEdited_427 : decode cL_isEdited 427 = .ok (.iload 8, 2) := by decide +kernel
theorem dL_isEdited_429 : decode cL_isEdited 429 = .ok (.invokestatic 24, 3) := by decide +kernel
theorem dL_isEdited_432 : decode cL_isEdited 432 = .ok (.lload 11, 2) := by decide +kernel
theorem dL_isEdited_434 : decode cL_isEdited 434 = .ok (.lastore, 1) := by decide +kernel
theorem dL_isEdited_435 : decode cL_isEdited 435 = .ok (.aload_n 2, 1) := by decide +kernel
theorem dL_isEdited_436 : decode cL_isEdited 436 = .ok (.aload 4, 2) := by decide +kernel
theorem dL_isEdited_438 : decode cL_isEdited 438 = .ok (.iload 8, 2) := by decide +kernel
theorem dL_isEdited_440 : decode cL_isEdited 440 = .ok (.invokestatic 24, 3) := by decide +kernel
theorem dL_isEdited_443 : decode cL_isEdited 443 = .ok (.iload 9, 2) := by decide +kernel
theorem dL_isEdited_445 : decode cL_isEdited 445 = .ok (.iastore, 1) := by decide +kernel
theorem dL_isEdited_446 : decode cL_isEdited 446 = .ok (.aload_n 3, 1) := by decide +kernel
theorem dL_isEdited_447 : decode cL_isEdited 447 = .ok (.aload 4, 2) := by decide +kernel
theorem dL_isEdited_449 : decode cL_isEdited 449 = .ok (.iload 8, 2) := by decide +kernel
theorem dL_isEdited_451 : decode cL_isEdited 451 = .ok (.invokestatic 24, 3) := by decide +kernel
theorem dL_isEdited_454 : decode cL_isEdited 454 = .ok (.aload 4, 2) := by decide +kernel
theorem dL_isEdited_456 : decode cL_isEdited 456 = .ok (.bipush 10, 2) := by decide +kernel
theorem dL_isEdited_458 : decode cL_isEdited 458 = .ok (.iload 7, 2) := by decide +kernel
theorem dL_isEdited_460 : decode cL_isEdited 460 = .ok (.iadd, 1) := by decide +kernel
theorem dL_isEdited_461 : decode cL_isEdited 461 = .ok (.iaload, 1) := by decide +kernel
theorem dL_isEdited_462 : decode cL_isEdited 462 = .ok (.iastore, 1) := by decide +kernel
theorem dL_isEdited_463 : decode cL_isEdited 463 = .ok (.iload 13, 2) := by decide +kernel
theorem dL_isEdited_465 : decode cL_isEdited 465 = .ok (.ifCond .eq 33, 3) := by decide +kernel
theorem dL_isEdited_468 : decode cL_isEdited 468 = .ok (.aload_n 0, 1) := by decide +kernel
theorem dL_isEdited_469 : decode cL_isEdited 469 = .ok (.iload 7, 2) := by decide +kernel
theorem dL_isEdited_471 : decode cL_isEdited 471 = .ok (.iload 8, 2) := by decide +kernel
theorem dL_isEdited_473 : decode cL_isEdited 473 = .ok (.invokevirtual 153, 3) := by decide +kernel
theorem dL_isEdited_476 : decode cL_isEdited 476 = .ok (.iload 14, 2) := by decide +kernel
theorem dL_isEdited_478 : decode cL_isEdited 478 = .ok (.ifCond .ne 11, 3) := by decide +kernel
theorem dL_isEdited_481 : decode cL_isEdited 481 = .ok (.aload 4, 2) := by decide +kernel
theorem dL_isEdited_483 : decode cL_isEdited 483 = .ok (.iload 8, 2) := by decide +kernel
theorem dL_isEdited_485 : decode cL_isEdited 485 = .ok (.iaload, 1) := by decide +kernel
theorem dL_isEdited_486 : decode cL_isEdited 486 = .ok (.goto 5, 3) := by decide +kernel
theorem dL_isEdited_489 : decode cL_isEdited 489 = .ok (.iload 14, 2) := by decide +kernel
theorem dL_isEdited_491 : decode cL_isEdited 491 = .ok (.if_icmp .ne 7, 3) := by decide +kernel
theorem dL_isEdited_494 : decode cL_isEdited 494 = .ok (.iconst 1, 1) := by decide +kernel
theorem dL_isEdited_495 : decode cL_isEdited 495 = .ok (.goto 4, 3) := by decide +kernel
theorem dL_isEdited_498 : decode cL_isEdited 498 = .ok (.iconst 0, 1) := by decide +kernel
theorem dL_isEdited_499 : decode cL_isEdited 499 = .ok (.ireturn, 1) := by decide +kernel
theorem dL_acts_0 : decode cL_acts 0 = .ok (.iload 8, 2) := by decide +kernel
theorem dL_acts_2 : decode cL_acts 2 = .ok (.bipush 6, 2) := by decide +kernel
theorem dL_acts_4 : decode cL_acts 4 = .ok (.irem, 1) := by decide +kernel
theorem dL_acts_5 : decode cL_acts 5 = .ok (.istore 9, 2) := by decide +kernel
theorem dL_acts_7 : decode cL_acts 7 = .ok (.iload 8, 2) := by decide +kernel
theorem dL_acts_9 : decode cL_acts 9 = .ok (.bipush 6, 2) := by decide +kernel
theorem dL_acts_11 : decode cL_acts 11 = .ok (.idiv, 1) := by decide +kernel
theorem dL_acts_12 : decode cL_acts 12 = .ok (.iconst 5, 1) := by decide +kernel
theorem dL_acts_13 : decode cL_acts 13 = .ok (.irem, 1) := by decide +kernel
theorem dL_acts_14 : decode cL_acts 14 = .ok (.istore 10, 2) := by decide +kernel
theorem dL_acts_16 : decode cL_acts 16 = .ok (.iload 7, 2) := by decide +kernel
theorem dL_acts_18 : decode cL_acts 18 = .ok (.bipush 12, 2) := by decide +kernel
theorem dL_acts_20 : decode cL_acts 20 = .ok (.if_icmp .ge 31, 3) := by decide +kernel
theorem dL_acts_23 : decode cL_acts 23 = .ok (.aload 4, 2) := by decide +kernel
theorem dL_acts_25 : decode cL_acts 25 = .ok (.iload 10, 2) := by decide +kernel
theorem dL_acts_27 : decode cL_acts 27 = .ok (.iaload, 1) := by decide +kernel
theorem dL_acts_28 : decode cL_acts 28 = .ok (.bipush 11, 2) := by decide +kernel
theorem dL_acts_30 : decode cL_acts 30 = .ok (.if_icmp .ge 21, 3) := by decide +kernel
theorem dL_acts_33 : decode cL_acts 33 = .ok (.aload_n 0, 1) := by decide +kernel
theorem dL_acts_34 : decode cL_acts 34 = .ok (.aload_n 1, 1) := by decide +kernel
theorem dL_acts_35 : decode cL_acts 35 = .ok (.aload_n 2, 1) := by decide +kernel
theorem dL_acts_36 : decode cL_acts 36 = .ok (.aload_n 3, 1) := by decide +kernel
theorem dL_acts_37 : decode cL_acts 37 = .ok (.aload 4, 2) := by decide +kernel
theorem dL_acts_39 : decode cL_acts 39 = .ok (.aload 5, 2) := by decide +kernel
theorem dL_acts_41 : decode cL_acts 41 = .ok (.iload 6, 2) := by decide +kernel
theorem dL_acts_43 : decode cL_acts 43 = .ok (.iload 9, 2) := by decide +kernel
theorem dL_acts_45 : decode cL_acts 45 = .ok (.iload 10, 2) := by decide +kernel
theorem dL_acts_47 : decode cL_acts 47 = .ok (.invokestatic 156, 3) := by decide +kernel
theorem dL_acts_50 : decode cL_acts 50 = .ok (.ireturn, 1) := by decide +kernel
theorem dL_acts_51 : decode cL_acts 51 = .ok (.iload 7, 2) := by decide +kernel
theorem dL_acts_53 : decode cL_acts 53 = .ok (.bipush 15, 2) := by decide +kernel
theorem dL_acts_55 : decode cL_acts 55 = .ok (.if_icmp .ge 117, 3) := by decide +kernel
theorem dL_acts_58 : decode cL_acts 58 = .ok (.aload 4, 2) := by decide +kernel
theorem dL_acts_60 : decode cL_acts 60 = .ok (.iload 10, 2) := by decide +kernel
theorem dL_acts_62 : decode cL_acts 62 = .ok (.iaload, 1) := by decide +kernel
theorem dL_acts_63 : decode cL_acts 63 = .ok (.ifCond .ne 22, 3) := by decide +kernel
theorem dL_acts_66 : decode cL_acts 66 = .ok (.aload_n 0, 1) := by decide +kernel
theorem dL_acts_67 : decode cL_acts 67 = .ok (.iload 9, 2) := by decide +kernel
theorem dL_acts_69 : decode cL_acts 69 = .ok (.iload 10, 2) := by decide +kernel
theorem dL_acts_71 : decode cL_acts 71 = .ok (.invokestatic 160, 3) := by decide +kernel
theorem dL_acts_74 : decode cL_acts 74 = .ok (.bipush (-9), 2) := by decide +kernel
theorem dL_acts_76 : decode cL_acts 76 = .ok (.if_icmp .ne 7, 3) := by decide +kernel
theorem dL_acts_79 : decode cL_acts 79 = .ok (.iconst 1, 1) := by decide +kernel
theorem dL_acts_80 : decode cL_acts 80 = .ok (.goto 4, 3) := by decide +kernel
theorem dL_acts_83 : decode cL_acts 83 = .ok (.iconst 0, 1) := by decide +kernel
theorem dL_acts_84 : decode cL_acts 84 = .ok (.ireturn, 1) := by decide +kernel
theorem dL_acts_85 : decode cL_acts 85 = .ok (.aload 4, 2) := by decide +kernel
theorem dL_acts_87 : decode cL_acts 87 = .ok (.iload 10, 2) := by decide +kernel
theorem dL_acts_89 : decode cL_acts 89 = .ok (.invokestatic 24, 3) := by decide +kernel
theorem dL_acts_92 : decode cL_acts 92 = .ok (.iconst 1, 1) := by decide +kernel
theorem dL_acts_93 : decode cL_acts 93 = .ok (.isub, 1) := by decide +kernel
theorem dL_acts_94 : decode cL_acts 94 = .ok (.istore 11, 2) := by decide +kernel
theorem dL_acts_96 : decode cL_acts 96 = .ok (.aload_n 1, 1) := by decide +kernel
theorem dL_acts_97 : decode cL_acts 97 = .ok (.aload_n 2, 1) := by decide +kernel
theorem dL_acts_98 : decode cL_acts 98 = .ok (.aload_n 3, 1) := by decide +kernel
theorem dL_acts_99 : decode cL_acts 99 = .ok (.aload 4, 2) := by decide +kernel
theorem dL_acts_101 : decode cL_acts 101 = .ok (.iload 9, 2) := by decide +kernel
theorem dL_acts_103 : decode cL_acts 103 = .ok (.iload 10, 2) := by decide +kernel
theorem dL_acts_105 : decode cL_acts 105 = .ok (.aload_n 1, 1) := by decide +kernel
theorem dL_acts_106 : decode cL_acts 106 = .ok (.iload 11, 2) := by decide +kernel
theorem dL_acts_108 : decode cL_acts 108 = .ok (.laload, 1) := by decide +kernel
theorem dL_acts_109 : decode cL_acts 109 = .ok (.aload_n 2, 1) := by decide +kernel
theorem dL_acts_110 : decode cL_acts 110 = .ok (.iload 11, 2) := by decide +kernel
theorem dL_acts_112 : decode cL_acts 112 = .ok (.iaload, 1) := by decide +kernel
theorem dL_acts_113 : decode cL_acts 113 = .ok (.aload_n 3, 1) := by decide +kernel
theorem dL_acts_114 : decode cL_acts 114 = .ok (.iload 11, 2) := by decide +kernel
theorem dL_acts_116 : decode cL_acts 116 = .ok (.iaload, 1) := by decide +kernel
theorem dL_acts_117 : decode cL_acts 117 = .ok (.invokestatic 149, 3) := by decide +kernel
theorem dL_acts_120 : decode cL_acts 120 = .ok (.istore 12, 2) := by decide +kernel
theorem dL_acts_122 : decode cL_acts 122 = .ok (.aload 4, 2) := by decide +kernel
theorem dL_acts_124 : decode cL_acts 124 = .ok (.iload 10, 2) := by decide +kernel
theorem dL_acts_126 : decode cL_acts 126 = .ok (.dup2, 1) := by decide +kernel
theorem dL_acts_127 : decode cL_acts 127 = .ok (.iaload, 1) := by decide +kernel
theorem dL_acts_128 : decode cL_acts 128 = .ok (.iload 12, 2) := by decide +kernel
theorem dL_acts_130 : decode cL_acts 130 = .ok (.ifCond .ne 7, 3) := by decide +kernel
theorem dL_acts_133 : decode cL_acts 133 = .ok (.iconst 1, 1) := by decide +kernel
theorem dL_acts_134 : decode cL_acts 134 = .ok (.goto 4, 3) := by decide +kernel
theorem dL_acts_137 : decode cL_acts 137 = .ok (.iconst 0, 1) := by decide +kernel
theorem dL_acts_138 : decode cL_acts 138 = .ok (.isub, 1) := by decide +kernel
theorem dL_acts_139 : decode cL_acts 139 = .ok (.iastore, 1) := by decide +kernel
theorem dL_acts_140 : decode cL_acts 140 = .ok (.aload_n 0, 1) := by decide +kernel
theorem dL_acts_141 : decode cL_acts 141 = .ok (.iload 9, 2) := by decide +kernel
theorem dL_acts_143 : decode cL_acts 143 = .ok (.iload 10, 2) := by decide +kernel
theorem dL_acts_145 : decode cL_acts 145 = .ok (.invokestatic 160, 3) := by decide +kernel
theorem dL_acts_148 : decode cL_acts 148 = .ok (.iload 12, 2) := by decide +kernel
theorem dL_acts_150 : decode cL_acts 150 = .ok (.ifCond .ne 11, 3) := by decide +kernel
theorem dL_acts_153 : decode cL_acts 153 = .ok (.aload 4, 2) := by decide +kernel
theorem dL_acts_155 : decode cL_acts 155 = .ok (.iload 10, 2) := by decide +kernel
theorem dL_acts_157 : decode cL_acts 157 = .ok (.iaload, 1) := by decide +kernel
theorem dL_acts_158 : decode cL_acts 158 = .ok (.goto 5, 3) := by decide +kernel
theorem dL_acts_161 : decode cL_acts 161 = .ok (.iload 12, 2) := by decide +kernel
theorem dL_acts_163 : decode cL_acts 163 = .ok (.if_icmp .ne 7, 3) := by decide +kernel
theorem dL_acts_166 : decode cL_acts 166 = .ok (.iconst 1, 1) := by decide +kernel
theorem dL_acts_167 : decode cL_acts 167 = .ok (.goto 4, 3) := by decide +kernel
theorem dL_acts_170 : decode cL_acts 170 = .ok (.iconst 0, 1) := by decide +kernel
theorem dL_acts_171 : decode cL_acts 171 = .ok (.ireturn, 1) := by decide +kernel
theorem dL_acts_172 : decode cL_acts 172 = .ok (.iload 7, 2) := by decide +kernel
theorem dL_acts_174 : decode cL_acts 174 = .ok (.bipush 17, 2) := by decide +kernel
theorem dL_acts_176 : decode cL_acts 176 = .ok (.if_icmp .ge 103, 3) := by decide +kernel
theorem dL_acts_179 : decode cL_acts 179 = .ok (.aload 4, 2) := by decide +kernel
theorem dL_acts_181 : decode cL_acts 181 = .ok (.bipush 10, 2) := by decide +kernel
theorem dL_acts_183 : decode cL_acts 183 = .ok (.iload 9, 2) := by decide +kernel
theorem dL_acts_185 : decode cL_acts 185 = .ok (.iadd, 1) := by decide +kernel
theorem dL_acts_186 : decode cL_acts 186 = .ok (.iaload, 1) := by decide +kernel
theorem dL_acts_187 : decode cL_acts 187 = .ok (.aload_n 1, 1) := by decide +kernel
theorem dL_acts_188 : decode cL_acts 188 = .ok (.aload_n 2, 1) := by decide +kernel
theorem dL_acts_189 : decode cL_acts 189 = .ok (.aload 4, 2) := by decide +kernel
theorem dL_acts_191 : decode cL_acts 191 = .ok (.iload 10, 2) := by decide +kernel
theorem dL_acts_193 : decode cL_acts 193 = .ok (.invokestatic 32, 3) := by decide +kernel
theorem dL_acts_196 : decode cL_acts 196 = .ok (.if_icmp .lt 27, 3) := by decide +kernel
theorem dL_acts_199 : decode cL_acts 199 = .ok (.aload 4, 2) := by decide +kernel
theorem dL_acts_201 : decode cL_acts 201 = .ok (.bipush 10, 2) := by decide +kernel
theorem dL_acts_203 : decode cL_acts 203 = .ok (.iload 9, 2) := by decide +kernel
theorem dL_acts_205 : decode cL_acts 205 = .ok (.iadd, 1) := by decide +kernel
theorem dL_acts_206 : decode cL_acts 206 = .ok (.iaload, 1) := by decide +kernel
theorem dL_acts_207 : decode cL_acts 207 = .ok (.aload_n 3, 1) := by decide +kernel
theorem dL_acts_208 : decode cL_acts 208 = .ok (.aload 4, 2) := by decide +kernel
theorem dL_acts_210 : decode cL_acts 210 = .ok (.iload 10, 2) := by decide +kernel
theorem dL_acts_212 : decode cL_acts 212 = .ok (.invokestatic 24, 3) := by decide +kernel
theorem dL_acts_215 : decode cL_acts 215 = .ok (.iaload, 1) := by decide +kernel
theorem dL_acts_216 : decode cL_acts 216 = .ok (.if_icmp .le 7, 3) := by decide +kernel
theorem dL_acts_219 : decode cL_acts 219 = .ok (.iconst 1, 1) := by decide +kernel
theorem dL_acts_220 : decode cL_acts 220 = .ok (.goto 4, 3) := by decide +kernel
theorem dL_acts_223 : decode cL_acts 223 = .ok (.iconst 0, 1) := by decide +kernel
theorem dL_acts_224 : decode cL_acts 224 = .ok (.istore 11, 2) := by decide +kernel
theorem dL_acts_226 : decode cL_acts 226 = .ok (.aload_n 3, 1) := by decide +kernel
theorem dL_acts_227 : decode cL_acts 227 = .ok (.aload 4, 2) := by decide +kernel
theorem dL_acts_229 : decode cL_acts 229 = .ok (.iload 10, 2) := by decide +kernel
theorem dL_acts_231 : decode cL_acts 231 = .ok (.invokestatic 24, 3) := by decide +kernel
theorem dL_acts_234 : decode cL_acts 234 = .ok (.iload 11, 2) := by decide +kernel
theorem dL_acts_236 : decode cL_acts 236 = .ok (.ifCond .eq 14, 3) := by decide +kernel
theorem dL_acts_239 : decode cL_acts 239 = .ok (.aload 4, 2) := by decide +kernel
theorem dL_acts_241 : decode cL_acts 241 = .ok (.bipush 10, 2) := by decide +kernel
theorem dL_acts_243 : decode cL_acts 243 = .ok (.iload 9, 2) := by decide +kernel
theorem dL_acts_245 : decode cL_acts 245 = .ok (.iadd, 1) := by decide +kernel
theorem dL_acts_246 : decode cL_acts 246 = .ok (.iaload, 1) := by decide +kernel
theorem dL_acts_247 : decode cL_acts 247 = .ok (.goto 12, 3) := by decide +kernel
theorem dL_acts_250 : decode cL_acts 250 = .ok (.aload_n 3, 1) := by decide +kernel
theorem dL_acts_251 : decode cL_acts 251 = .ok (.aload 4, 2) := by decide +kernel
theorem dL_acts_253 : decode cL_acts 253 = .ok (.iload 10, 2) := by decide +kernel
theorem dL_acts_255 : decode cL_acts 255 = .ok (.invokestatic 24, 3) := by decide +kernel
theorem dL_acts_258 : decode cL_acts 258 = .ok (.iaload, 1) := by decide +kernel
theorem dL_acts_259 : decode cL_acts 259 = .ok (.iastore, 1) := by decide +kernel
theorem dL_acts_260 : decode cL_acts 260 = .ok (.aload_n 0, 1) := by decide +kernel
theorem dL_acts_261 : decode cL_acts 261 = .ok (.iload 9, 2) := by decide +kernel
theorem dL_acts_263 : decode cL_acts 263 = .ok (.iload 10, 2) := by decide +kernel
theorem dL_acts_265 : decode cL_acts 265 = .ok (.invokevirtual 164, 3) := by decide +kernel
theorem dL_acts_268 : decode cL_acts 268 = .ok (.iload 11, 2) := by decide +kernel
theorem dL_acts_270 : decode cL_acts 270 = .ok (.if_icmp .ne 7, 3) := by decide +kernel
theorem dL_acts_273 : decode cL_acts 273 = .ok (.iconst 1, 1) := by decide +kernel
theorem dL_acts_274 : decode cL_acts 274 = .ok (.goto 4, 3) := by decide +kernel
theorem dL_acts_277 : decode cL_acts 277 = .ok (.iconst 0, 1) := by decide +kernel
theorem dL_acts_278 : decode cL_acts 278 = .ok (.ireturn, 1) := by decide +kernel
theorem dL_acts_279 : decode cL_acts 279 = .ok (.iload 7, 2) := by decide +kernel
theorem dL_acts_281 : decode cL_acts 281 = .ok (.bipush 20, 2) := by decide +kernel
theorem dL_acts_283 : decode cL_acts 283 = .ok (.if_icmp .ge 104, 3) := by decide +kernel
theorem dL_acts_286 : decode cL_acts 286 = .ok (.iload 8, 2) := by decide +kernel
theorem dL_acts_288 : decode cL_acts 288 = .ok (.bipush 30, 2) := by decide +kernel
theorem dL_acts_290 : decode cL_acts 290 = .ok (.idiv, 1) := by decide +kernel
theorem dL_acts_291 : decode cL_acts 291 = .ok (.iconst 4, 1) := by decide +kernel
theorem dL_acts_292 : decode cL_acts 292 = .ok (.irem, 1) := by decide +kernel
theorem dL_acts_293 : decode cL_acts 293 = .ok (.istore 11, 2) := by decide +kernel
theorem dL_acts_295 : decode cL_acts 295 = .ok (.aload 4, 2) := by decide +kernel
theorem dL_acts_297 : decode cL_acts 297 = .ok (.iconst 5, 1) := by decide +kernel
theorem dL_acts_298 : decode cL_acts 298 = .ok (.iload 10, 2) := by decide +kernel
theorem dL_acts_300 : decode cL_acts 300 = .ok (.iadd, 1) := by decide +kernel
theorem dL_acts_301 : decode cL_acts 301 = .ok (.iaload, 1) := by decide +kernel
theorem dL_acts_302 : decode cL_acts 302 = .ok (.istore 12, 2) := by decide +kernel
theorem dL_acts_304 : decode cL_acts 304 = .ok (.aload 4, 2) := by decide +kernel
theorem dL_acts_306 : decode cL_acts 306 = .ok (.bipush 10, 2) := by decide +kernel
theorem dL_acts_308 : decode cL_acts 308 = .ok (.iload 9, 2) := by decide +kernel
theorem dL_acts_310 : decode cL_acts 310 = .ok (.iadd, 1) := by decide +kernel
theorem dL_acts_311 : decode cL_acts 311 = .ok (.iaload, 1) := by decide +kernel
theorem dL_acts_312 : decode cL_acts 312 = .ok (.iload 12, 2) := by decide +kernel
theorem dL_acts_314 : decode cL_acts 314 = .ok (.if_icmp .lt 20, 3) := by decide +kernel
theorem dL_acts_317 : decode cL_acts 317 = .ok (.aload 4, 2) := by decide +kernel
theorem dL_acts_319 : decode cL_acts 319 = .ok (.bipush 10, 2) := by decide +kernel
theorem dL_acts_321 : decode cL_acts 321 = .ok (.iload 9, 2) := by decide +kernel
theorem dL_acts_323 : decode cL_acts 323 = .ok (.iadd, 1) := by decide +kernel
theorem dL_acts_324 : decode cL_acts 324 = .ok (.iaload, 1) := by decide +kernel
theorem dL_acts_325 : decode cL_acts 325 = .ok (.iload 11, 2) := by decide +kernel
theorem dL_acts_327 : decode cL_acts 327 = .ok (.if_icmp .lt 7, 3) := by decide +kernel
theorem dL_acts_330 : decode cL_acts 330 = .ok (.iconst 1, 1) := by decide +kernel
theorem dL_acts_331 : decode cL_acts 331 = .ok (.goto 4, 3) := by decide +kernel
theorem dL_acts_334 : decode cL_acts 334 = .ok (.iconst 0, 1) := by decide +kernel
theorem dL_acts_335 : decode cL_acts 335 = .ok (.istore 13, 2) := by decide +kernel
theorem dL_acts_337 : decode cL_acts 337 = .ok (.aload 4, 2) := by decide +kernel
theorem dL_acts_339 : decode cL_acts 339 = .ok (.iconst 5, 1) := by decide +kernel
theorem dL_acts_340 : decode cL_acts 340 = .ok (.iload 10, 2) := by decide +kernel
theorem dL_acts_342 : decode cL_acts 342 = .ok (.iadd, 1) := by decide +kernel
theorem dL_acts_343 : decode cL_acts 343 = .ok (.iload 13, 2) := by decide +kernel
theorem dL_acts_345 : decode cL_acts 345 = .ok (.ifCond .eq 8, 3) := by decide +kernel
theorem dL_acts_348 : decode cL_acts 348 = .ok (.iload 11, 2) := by decide +kernel
theorem dL_acts_350 : decode cL_acts 350 = .ok (.goto 5, 3) := by decide +kernel
theorem dL_acts_353 : decode cL_acts 353 = .ok (.iload 12, 2) := by decide +kernel
theorem dL_acts_355 : decode cL_acts 355 = .ok (.iastore, 1) := by decide +kernel
theorem dL_acts_356 : decode cL_acts 356 = .ok (.aload_n 0, 1) := by decide +kernel
theorem dL_acts_357 : decode cL_acts 357 = .ok (.iload 9, 2) := by decide +kernel
theorem dL_acts_359 : decode cL_acts 359 = .ok (.iload 10, 2) := by decide +kernel
theorem dL_acts_361 : decode cL_acts 361 = .ok (.iload 11, 2) := by decide +kernel
theorem dL_acts_363 : decode cL_acts 363 = .ok (.invokevirtual 168, 3) := by decide +kernel
theorem dL_acts_366 : decode cL_acts 366 = .ok (.iload 13, 2) := by decide +kernel
theorem dL_acts_368 : decode cL_acts 368 = .ok (.ifCond .eq 8, 3) := by decide +kernel
theorem dL_acts_371 : decode cL_acts 371 = .ok (.iload 12, 2) := by decide +kernel
theorem dL_acts_373 : decode cL_acts 373 = .ok (.goto 5, 3) := by decide +kernel
theorem dL_acts_376 : decode cL_acts 376 = .ok (.bipush (-2), 2) := by decide +kernel
theorem dL_acts_378 : decode cL_acts 378 = .ok (.if_icmp .ne 7, 3) := by decide +kernel
theorem dL_acts_381 : decode cL_acts 381 = .ok (.iconst 1, 1) := by decide +kernel
theorem dL_acts_382 : decode cL_acts 382 = .ok (.goto 4, 3) := by decide +kernel
theorem dL_acts_385 : decode cL_acts 385 = .ok (.iconst 0, 1) := by decide +kernel
theorem dL_acts_386 : decode cL_acts 386 = .ok (.ireturn, 1) := by decide +kernel
theorem dL_acts_387 : decode cL_acts 387 = .ok (.aload 4, 2) := by decide +kernel
theorem dL_acts_389 : decode cL_acts 389 = .ok (.bipush 10, 2) := by decide +kernel
theorem dL_acts_391 : decode cL_acts 391 = .ok (.iload 9, 2) := by decide +kernel
theorem dL_acts_393 : decode cL_acts 393 = .ok (.iadd, 1) := by decide +kernel
theorem dL_acts_394 : decode cL_acts 394 = .ok (.iaload, 1) := by decide +kernel
theorem dL_acts_395 : decode cL_acts 395 = .ok (.istore 11, 2) := by decide +kernel
theorem dL_acts_397 : decode cL_acts 397 = .ok (.aload 4, 2) := by decide +kernel
theorem dL_acts_399 : decode cL_acts 399 = .ok (.bipush 10, 2) := by decide +kernel
theorem dL_acts_401 : decode cL_acts 401 = .ok (.iload 9, 2) := by decide +kernel
theorem dL_acts_403 : decode cL_acts 403 = .ok (.iadd, 1) := by decide +kernel
theorem dL_acts_404 : decode cL_acts 404 = .ok (.iload 8, 2) := by decide +kernel
theorem dL_acts_406 : decode cL_acts 406 = .ok (.bipush 30, 2) := by decide +kernel
theorem dL_acts_408 : decode cL_acts 408 = .ok (.idiv, 1) := by decide +kernel
theorem dL_acts_409 : decode cL_acts 409 = .ok (.iconst 4, 1) := by decide +kernel
theorem dL_acts_410 : decode cL_acts 410 = .ok (.irem, 1) := by decide +kernel
theorem dL_acts_411 : decode cL_acts 411 = .ok (.iastore, 1) := by decide +kernel
theorem dL_acts_412 : decode cL_acts 412 = .ok (.aload_n 0, 1) := by decide +kernel
theorem dL_acts_413 : decode cL_acts 413 = .ok (.iload 9, 2) := by decide +kernel
theorem dL_acts_415 : decode cL_acts 415 = .ok (.iload 8, 2) := by decide +kernel
theorem dL_acts_417 : decode cL_acts 417 = .ok (.bipush 30, 2) := by decide +kernel
theorem dL_acts_419 : decode cL_acts 419 = .ok (.idiv, 1) := by decide +kernel
theorem dL_acts_420 : decode cL_acts 420 = .ok (.iconst 4, 1) := by decide +kernel
theorem dL_acts_421 : decode cL_acts 421 = .ok (.irem, 1) := by decide +kernel
theorem dL_acts_422 : decode cL_acts 422 = .ok (.invokevirtual 171, 3) := by decide +kernel
theorem dL_acts_425 : decode cL_acts 425 = .ok (.iload 11, 2) := by decide +kernel
theorem dL_acts_427 : decode cL_acts 427 = .ok (.if_icmp .ne 7, 3) := by decide +kernel
theorem dL_acts_430 : decode cL_acts 430 = .ok (.iconst 1, 1) := by decide +kernel
theorem dL_acts_431 : decode cL_acts 431 = .ok (.goto 4, 3) := by decide +kernel
theorem dL_acts_434 : decode cL_acts 434 = .ok (.iconst 0, 1) := by decide +kernel
theorem dL_acts_435 : decode cL_acts 435 = .ok (.ireturn, 1) := by decide +kernel
theorem dL_holds_0 : decode cL_holds 0 = .ok (.new 45, 3) := by decide +kernel
theorem dL_holds_3 : decode cL_holds 3 = .ok (.dup, 1) := by decide +kernel
theorem dL_holds_4 : decode cL_holds 4 = .ok (.invokespecial 174, 3) := by decide +kernel
theorem dL_holds_7 : decode cL_holds 7 = .ok (.astore_n 1, 1) := by decide +kernel
theorem dL_holds_8 : decode cL_holds 8 = .ok (.bipush 60, 2) := by decide +kernel
theorem dL_holds_10 : decode cL_holds 10 = .ok (.newarray .long, 2) := by decide +kernel
theorem dL_holds_12 : decode cL_holds 12 = .ok (.astore_n 2, 1) := by decide +kernel
theorem dL_holds_13 : decode cL_holds 13 = .ok (.bipush 60, 2) := by decide +kernel
theorem dL_holds_15 : decode cL_holds 15 = .ok (.newarray .int, 2) := by decide +kernel
theorem dL_holds_17 : decode cL_holds 17 = .ok (.astore_n 3, 1) := by decide +kernel
theorem dL_holds_18 : decode cL_holds 18 = .ok (.bipush 60, 2) := by decide +kernel
theorem dL_holds_20 : decode cL_holds 20 = .ok (.newarray .int, 2) := by decide +kernel
theorem dL_holds_22 : decode cL_holds 22 = .ok (.astore 4, 2) := by decide +kernel
theorem dL_holds_24 : decode cL_holds 24 = .ok (.bipush 16, 2) := by decide +kernel
theorem dL_holds_26 : decode cL_holds 26 = .ok (.newarray .int, 2) := by decide +kernel
theorem dL_holds_28 : decode cL_holds 28 = .ok (.astore 5, 2) := by decide +kernel
theorem dL_holds_30 : decode cL_holds 30 = .ok (.iconst 1, 1) := by decide +kernel
theorem dL_holds_31 : decode cL_holds 31 = .ok (.istore 6, 2) := by decide +kernel
theorem dL_holds_33 : decode cL_holds 33 = .ok (.iconst 0, 1) := by decide +kernel
theorem dL_holds_34 : decode cL_holds 34 = .ok (.istore 7, 2) := by decide +kernel
theorem dL_holds_36 : decode cL_holds 36 = .ok (.iload 7, 2) := by decide +kernel
theorem dL_holds_38 : decode cL_holds 38 = .ok (.iconst 5, 1) := by decide +kernel
theorem dL_holds_39 : decode cL_holds 39 = .ok (.if_icmp .ge 18, 3) := by decide +kernel
theorem dL_holds_42 : decode cL_holds 42 = .ok (.aload 4, 2) := by decide +kernel
theorem dL_holds_44 : decode cL_holds 44 = .ok (.bipush 12, 2) := by decide +kernel
theorem dL_holds_46 : decode cL_holds 46 = .ok (.iload 7, 2) := by decide +kernel
theorem dL_holds_48 : decode cL_holds 48 = .ok (.imul, 1) := by decide +kernel
theorem dL_holds_49 : decode cL_holds 49 = .ok (.iconst 3, 1) := by decide +kernel
theorem dL_holds_50 : decode cL_holds 50 = .ok (.iastore, 1) := by decide +kernel
theorem dL_holds_51 : decode cL_holds 51 = .ok (.iinc 7 1, 3) := by decide +kernel
theorem dL_holds_54 : decode cL_holds 54 = .ok (.goto (-18), 3) := by decide +kernel
theorem dL_holds_57 : decode cL_holds 57 = .ok (.iconst 0, 1) := by decide +kernel
theorem dL_holds_58 : decode cL_holds 58 = .ok (.istore 7, 2) := by decide +kernel
theorem dL_holds_60 : decode cL_holds 60 = .ok (.iload 7, 2) := by decide +kernel
theorem dL_holds_62 : decode cL_holds 62 = .ok (.bipush 90, 2) := by decide +kernel
theorem dL_holds_64 : decode cL_holds 64 = .ok (.if_icmp .ge 119, 3) := by decide +kernel
theorem dL_holds_67 : decode cL_holds 67 = .ok (.iload 6, 2) := by decide +kernel
theorem dL_holds_69 : decode cL_holds 69 = .ok (.ifCond .eq 114, 3) := by decide +kernel
theorem dL_holds_72 : decode cL_holds 72 = .ok (.aload_n 1, 1) := by decide +kernel
theorem dL_holds_73 : decode cL_holds 73 = .ok (.aload_n 2, 1) := by decide +kernel
theorem dL_holds_74 : decode cL_holds 74 = .ok (.aload_n 3, 1) := by decide +kernel
theorem dL_holds_75 : decode cL_holds 75 = .ok (.aload 4, 2) := by decide +kernel
theorem dL_holds_77 : decode cL_holds 77 = .ok (.aload 5, 2) := by decide +kernel
theorem dL_holds_79 : decode cL_holds 79 = .ok (.aload_n 0, 1) := by decide +kernel
theorem dL_holds_80 : decode cL_holds 80 = .ok (.sipush 300, 3) := by decide +kernel
theorem dL_holds_83 : decode cL_holds 83 = .ok (.bipush 13, 2) := by decide +kernel
theorem dL_holds_85 : decode cL_holds 85 = .ok (.iload 7, 2) := by decide +kernel
theorem dL_holds_87 : decode cL_holds 87 = .ok (.imul, 1) := by decide +kernel
theorem dL_holds_88 : decode cL_holds 88 = .ok (.iadd, 1) := by decide +kernel
theorem dL_holds_89 : decode cL_holds 89 = .ok (.aload_n 0, 1) := by decide +kernel
theorem dL_holds_90 : decode cL_holds 90 = .ok (.iconst 2, 1) := by decide +kernel
theorem dL_holds_91 : decode cL_holds 91 = .ok (.iload 7, 2) := by decide +kernel
theorem dL_holds_93 : decode cL_holds 93 = .ok (.imul, 1) := by decide +kernel
theorem dL_holds_94 : decode cL_holds 94 = .ok (.bipush 22, 2) := by decide +kernel
theorem dL_holds_96 : decode cL_holds 96 = .ok (.invokestatic 141, 3) := by decide +kernel
theorem dL_holds_99 : decode cL_holds 99 = .ok (.aload_n 0, 1) := by decide +kernel
theorem dL_holds_100 : decode cL_holds 100 = .ok (.iconst 2, 1) := by decide +kernel
theorem dL_holds_101 : decode cL_holds 101 = .ok (.iload 7, 2) := by decide +kernel
theorem dL_holds_103 : decode cL_holds 103 = .ok (.imul, 1) := by decide +kernel
theorem dL_holds_104 : decode cL_holds 104 = .ok (.iconst 1, 1) := by decide +kernel
theorem dL_holds_105 : decode cL_holds 105 = .ok (.iadd, 1) := by decide +kernel
theorem dL_holds_106 : decode cL_holds 106 = .ok (.ldc 175, 2) := by decide +kernel
theorem dL_holds_108 : decode cL_holds 108 = .ok (.invokestatic 141, 3) := by decide +kernel
theorem dL_holds_111 : decode cL_holds 111 = .ok (.invokestatic 176, 3) := by decide +kernel
theorem dL_holds_114 : decode cL_holds 114 = .ok (.ifCond .eq 60, 3) := by decide +kernel
theorem dL_holds_117 : decode cL_holds 117 = .ok (.iload 7, 2) := by decide +kernel
theorem dL_holds_119 : decode cL_holds 119 = .ok (.iconst 5, 1) := by decide +kernel
theorem dL_holds_120 : decode cL_holds 120 = .ok (.irem, 1) := by decide +kernel
theorem dL_holds_121 : decode cL_holds 121 = .ok (.iconst 4, 1) := by decide +kernel
theorem dL_holds_122 : decode cL_holds 122 = .ok (.if_icmp .lt 25, 3) := by decide +kernel
theorem dL_holds_125 : decode cL_holds 125 = .ok (.aload_n 1, 1) := by decide +kernel
theorem dL_holds_126 : decode cL_holds 126 = .ok (.aload_n 2, 1) := by decide +kernel
theorem dL_holds_127 : decode cL_holds 127 = .ok (.aload_n 3, 1) := by decide +kernel
theorem dL_holds_128 : decode cL_holds 128 = .ok (.aload 4, 2) := by decide +kernel
theorem dL_holds_130 : decode cL_holds 130 = .ok (.aload 5, 2) := by decide +kernel
theorem dL_holds_132 : decode cL_holds 132 = .ok (.iload 7, 2) := by decide +kernel
theorem dL_holds_134 : decode cL_holds 134 = .ok (.bipush 20, 2) := by decide +kernel
theorem dL_holds_136 : decode cL_holds 136 = .ok (.irem, 1) := by decide +kernel
theorem dL_holds_137 : decode cL_holds 137 = .ok (.iconst 5, 1) := by decide +kernel
theorem dL_holds_138 : decode cL_holds 138 = .ok (.idiv, 1) := by decide +kernel
theorem dL_holds_139 : decode cL_holds 139 = .ok (.iconst 1, 1) := by decide +kernel
theorem dL_holds_140 : decode cL_holds 140 = .ok (.isub, 1) := by decide +kernel
theorem dL_holds_141 : decode cL_holds 141 = .ok (.invokestatic 179, 3) := by decide +kernel
theorem dL_holds_144 : decode cL_holds 144 = .ok (.ifCond .eq 30, 3) := by decide +kernel
theorem dL_holds_147 : decode cL_holds 147 = .ok (.iload 7, 2) := by decide +kernel
theorem dL_holds_149 : decode cL_holds 149 = .ok (.bipush 15, 2) := by decide +kernel
theorem dL_holds_151 : decode cL_holds 151 = .ok (.irem, 1) := by decide +kernel
theorem dL_holds_152 : decode cL_holds 152 = .ok (.bipush 14, 2) := by decide +kernel
theorem dL_holds_154 : decode cL_holds 154 = .ok (.if_icmp .lt 16, 3) := by decide +kernel
theorem dL_holds_157 : decode cL_holds 157 = .ok (.aload_n 1, 1) := by decide +kernel
theorem dL_holds_158 : decode cL_holds 158 = .ok (.aload_n 2, 1) := by decide +kernel
theorem dL_holds_159 : decode cL_holds 159 = .ok (.aload_n 3, 1) := by decide +kernel
theorem dL_holds_160 : decode cL_holds 160 = .ok (.aload 4, 2) := by decide +kernel
theorem dL_holds_162 : decode cL_holds 162 = .ok (.aload 5, 2) := by decide +kernel
theorem dL_holds_164 : decode cL_holds 164 = .ok (.invokestatic 183, 3) := by decide +kernel
theorem dL_holds_167 : decode cL_holds 167 = .ok (.ifCond .eq 7, 3) := by decide +kernel
theorem dL_holds_170 : decode cL_holds 170 = .ok (.iconst 1, 1) := by decide +kernel
theorem dL_holds_171 : decode cL_holds 171 = .ok (.goto 4, 3) := by decide +kernel
theorem dL_holds_174 : decode cL_holds 174 = .ok (.iconst 0, 1) := by decide +kernel
theorem dL_holds_175 : decode cL_holds 175 = .ok (.istore 6, 2) := by decide +kernel
theorem dL_holds_177 : decode cL_holds 177 = .ok (.iinc 7 1, 3) := by decide +kernel
theorem dL_holds_180 : decode cL_holds 180 = .ok (.goto (-120), 3) := by decide +kernel
theorem dL_holds_183 : decode cL_holds 183 = .ok (.iload 6, 2) := by decide +kernel
theorem dL_holds_185 : decode cL_holds 185 = .ok (.ifCond .eq 34, 3) := by decide +kernel
theorem dL_holds_188 : decode cL_holds 188 = .ok (.aload_n 1, 1) := by decide +kernel
theorem dL_holds_189 : decode cL_holds 189 = .ok (.aload_n 2, 1) := by decide +kernel
theorem dL_holds_190 : decode cL_holds 190 = .ok (.aload_n 3, 1) := by decide +kernel
theorem dL_holds_191 : decode cL_holds 191 = .ok (.aload 4, 2) := by decide +kernel
theorem dL_holds_193 : decode cL_holds 193 = .ok (.aload 5, 2) := by decide +kernel
theorem dL_holds_195 : decode cL_holds 195 = .ok (.iconst (-1), 1) := by decide +kernel
theorem dL_holds_196 : decode cL_holds 196 = .ok (.invokestatic 179, 3) := by decide +kernel
theorem dL_holds_199 : decode cL_holds 199 = .ok (.ifCond .eq 20, 3) := by decide +kernel
theorem dL_holds_202 : decode cL_holds 202 = .ok (.aload_n 1, 1) := by decide +kernel
theorem dL_holds_203 : decode cL_holds 203 = .ok (.aload_n 2, 1) := by decide +kernel
theorem dL_holds_204 : decode cL_holds 204 = .ok (.aload_n 3, 1) := by decide +kernel
theorem dL_holds_205 : decode cL_holds 205 = .ok (.aload 4, 2) := by decide +kernel
theorem dL_holds_207 : decode cL_holds 207 = .ok (.aload 5, 2) := by decide +kernel
theorem dL_holds_209 : decode cL_holds 209 = .ok (.invokestatic 183, 3) := by decide +kernel
theorem dL_holds_212 : decode cL_holds 212 = .ok (.ifCond .eq 7, 3) := by decide +kernel
theorem dL_holds_215 : decode cL_holds 215 = .ok (.iconst 1, 1) := by decide +kernel
theorem dL_holds_216 : decode cL_holds 216 = .ok (.goto 4, 3) := by decide +kernel
theorem dL_holds_219 : decode cL_holds 219 = .ok (.iconst 0, 1) := by decide +kernel
theorem dL_holds_220 : decode cL_holds 220 = .ok (.ireturn, 1) := by decide +kernel
theorem dL_isHeld_0 : decode cL_isHeld 0 = .ok (.aload_n 0, 1) := by decide +kernel
theorem dL_isHeld_1 : decode cL_isHeld 1 = .ok (.invokestatic 187, 3) := by decide +kernel
theorem dL_isHeld_4 : decode cL_isHeld 4 = .ok (.ireturn, 1) := by decide +kernel
theorem dL_isHeld_5 : decode cL_isHeld 5 = .ok (.astore_n 1, 1) := by decide +kernel
theorem dL_isHeld_6 : decode cL_isHeld 6 = .ok (.iconst 0, 1) := by decide +kernel
theorem dL_isHeld_7 : decode cL_isHeld 7 = .ok (.ireturn, 1) := by decide +kernel
theorem dL_isHeld_8 : decode cL_isHeld 8 = .ok (.astore_n 1, 1) := by decide +kernel
theorem dL_isHeld_9 : decode cL_isHeld 9 = .ok (.iconst 0, 1) := by decide +kernel
theorem dL_isHeld_10 : decode cL_isHeld 10 = .ok (.ireturn, 1) := by decide +kernel
theorem dL_isHeld_11 : decode cL_isHeld 11 = .ok (.astore_n 1, 1) := by decide +kernel
theorem dL_isHeld_12 : decode cL_isHeld 12 = .ok (.iconst 0, 1) := by decide +kernel
theorem dL_isHeld_13 : decode cL_isHeld 13 = .ok (.ireturn, 1) := by decide +kernel
theorem dL_isHeld_14 : decode cL_isHeld 14 = .ok (.astore_n 1, 1) := by decide +kernel
theorem dL_isHeld_15 : decode cL_isHeld 15 = .ok (.iconst 0, 1) := by decide +kernel
theorem dL_isHeld_16 : decode cL_isHeld 16 = .ok (.ireturn, 1) := by decide +kernel
theorem dL_law_0 : decode cL_law 0 = .ok (.aload_n 0, 1) := by decide +kernel
theorem dL_law_1 : decode cL_law 1 = .ok (.invokestatic 195, 3) := by decide +kernel
theorem dL_law_4 : decode cL_law 4 = .ok (.ireturn, 1) := by decide +kernel
