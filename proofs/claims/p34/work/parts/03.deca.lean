theorem dX0_init_0 : decode cX0_init 0 = .ok (.aload_n 0, 1) := by decide +kernel
theorem dX0_init_1 : decode cX0_init 1 = .ok (.invokespecial 3, 3) := by decide +kernel
theorem dX0_init_4 : decode cX0_init 4 = .ok (.aload_n 0, 1) := by decide +kernel
theorem dX0_init_5 : decode cX0_init 5 = .ok (.sipush 144, 3) := by decide +kernel
theorem dX0_init_8 : decode cX0_init 8 = .ok (.newarray .int, 2) := by decide +kernel
theorem dX0_init_10 : decode cX0_init 10 = .ok (.putfield 9, 3) := by decide +kernel
theorem dX0_init_13 : decode cX0_init 13 = .ok (.aload_n 0, 1) := by decide +kernel
theorem dX0_init_14 : decode cX0_init 14 = .ok (.bipush 12, 2) := by decide +kernel
theorem dX0_init_16 : decode cX0_init 16 = .ok (.newarray .int, 2) := by decide +kernel
theorem dX0_init_18 : decode cX0_init 18 = .ok (.putfield 15, 3) := by decide +kernel
theorem dX0_init_21 : decode cX0_init 21 = .ok (.aload_n 0, 1) := by decide +kernel
theorem dX0_init_22 : decode cX0_init 22 = .ok (.bipush 12, 2) := by decide +kernel
theorem dX0_init_24 : decode cX0_init 24 = .ok (.newarray .int, 2) := by decide +kernel
theorem dX0_init_26 : decode cX0_init 26 = .ok (.putfield 18, 3) := by decide +kernel
theorem dX0_init_29 : decode cX0_init 29 = .ok (.aload_n 0, 1) := by decide +kernel
theorem dX0_init_30 : decode cX0_init 30 = .ok (.bipush 12, 2) := by decide +kernel
theorem dX0_init_32 : decode cX0_init 32 = .ok (.newarray .int, 2) := by decide +kernel
theorem dX0_init_34 : decode cX0_init 34 = .ok (.putfield 21, 3) := by decide +kernel
theorem dX0_init_37 : decode cX0_init 37 = .ok (.aload_n 0, 1) := by decide +kernel
theorem dX0_init_38 : decode cX0_init 38 = .ok (.bipush 12, 2) := by decide +kernel
theorem dX0_init_40 : decode cX0_init 40 = .ok (.newarray .int, 2) := by decide +kernel
theorem dX0_init_42 : decode cX0_init 42 = .ok (.putfield 24, 3) := by decide +kernel
theorem dX0_init_45 : decode cX0_init 45 = .ok (.return_, 1) := by decide +kernel
theorem dX0_takeCalls_0 : decode cX0_takeCalls 0 = .ok (.iconst 0, 1) := by decide +kernel
theorem dX0_takeCalls_1 : decode cX0_takeCalls 1 = .ok (.istore_n 2, 1) := by decide +kernel
theorem dX0_takeCalls_2 : decode cX0_takeCalls 2 = .ok (.iload_n 2, 1) := by decide +kernel
theorem dX0_takeCalls_3 : decode cX0_takeCalls 3 = .ok (.aload_n 0, 1) := by decide +kernel
theorem dX0_takeCalls_4 : decode cX0_takeCalls 4 = .ok (.getfield 9, 3) := by decide +kernel
theorem dX0_takeCalls_7 : decode cX0_takeCalls 7 = .ok (.arraylength, 1) := by decide +kernel
theorem dX0_takeCalls_8 : decode cX0_takeCalls 8 = .ok (.if_icmp .ge 23, 3) := by decide +kernel
theorem dX0_takeCalls_11 : decode cX0_takeCalls 11 = .ok (.aload_n 0, 1) := by decide +kernel
theorem dX0_takeCalls_12 : decode cX0_takeCalls 12 = .ok (.getfield 9, 3) := by decide +kernel
theorem dX0_takeCalls_15 : decode cX0_takeCalls 15 = .ok (.iload_n 2, 1) := by decide +kernel
theorem dX0_takeCalls_16 : decode cX0_takeCalls 16 = .ok (.aload_n 1, 1) := by decide +kernel
theorem dX0_takeCalls_17 : decode cX0_takeCalls 17 = .ok (.getfield 9, 3) := by decide +kernel
theorem dX0_takeCalls_20 : decode cX0_takeCalls 20 = .ok (.iload_n 2, 1) := by decide +kernel
theorem dX0_takeCalls_21 : decode cX0_takeCalls 21 = .ok (.invokestatic 27, 3) := by decide +kernel
theorem dX0_takeCalls_24 : decode cX0_takeCalls 24 = .ok (.iastore, 1) := by decide +kernel
theorem dX0_takeCalls_25 : decode cX0_takeCalls 25 = .ok (.iinc 2 1, 3) := by decide +kernel
theorem dX0_takeCalls_28 : decode cX0_takeCalls 28 = .ok (.goto (-26), 3) := by decide +kernel
theorem dX0_takeCalls_31 : decode cX0_takeCalls 31 = .ok (.iconst 0, 1) := by decide +kernel
theorem dX0_takeCalls_32 : decode cX0_takeCalls 32 = .ok (.istore_n 2, 1) := by decide +kernel
theorem dX0_takeCalls_33 : decode cX0_takeCalls 33 = .ok (.iload_n 2, 1) := by decide +kernel
theorem dX0_takeCalls_34 : decode cX0_takeCalls 34 = .ok (.bipush 12, 2) := by decide +kernel
theorem dX0_takeCalls_36 : decode cX0_takeCalls 36 = .ok (.if_icmp .ge 25, 3) := by decide +kernel
theorem dX0_takeCalls_39 : decode cX0_takeCalls 39 = .ok (.aload_n 0, 1) := by decide +kernel
theorem dX0_takeCalls_40 : decode cX0_takeCalls 40 = .ok (.getfield 15, 3) := by decide +kernel
theorem dX0_takeCalls_43 : decode cX0_takeCalls 43 = .ok (.iload_n 2, 1) := by decide +kernel
theorem dX0_takeCalls_44 : decode cX0_takeCalls 44 = .ok (.aload_n 1, 1) := by decide +kernel
theorem dX0_takeCalls_45 : decode cX0_takeCalls 45 = .ok (.getfield 15, 3) := by decide +kernel
theorem dX0_takeCalls_48 : decode cX0_takeCalls 48 = .ok (.iload_n 2, 1) := by decide +kernel
theorem dX0_takeCalls_49 : decode cX0_takeCalls 49 = .ok (.invokestatic 27, 3) := by decide +kernel
theorem dX0_takeCalls_52 : decode cX0_takeCalls 52 = .ok (.invokestatic 31, 3) := by decide +kernel
theorem dX0_takeCalls_55 : decode cX0_takeCalls 55 = .ok (.iinc 2 1, 3) := by decide +kernel
theorem dX0_takeCalls_58 : decode cX0_takeCalls 58 = .ok (.goto (-25), 3) := by decide +kernel
theorem dX0_takeCalls_61 : decode cX0_takeCalls 61 = .ok (.return_, 1) := by decide +kernel
theorem dX0_setCalls_0 : decode cX0_setCalls 0 = .ok (.iconst 0, 1) := by decide +kernel
theorem dX0_setCalls_1 : decode cX0_setCalls 1 = .ok (.istore_n 3, 1) := by decide +kernel
theorem dX0_setCalls_2 : decode cX0_setCalls 2 = .ok (.iload_n 3, 1) := by decide +kernel
theorem dX0_setCalls_3 : decode cX0_setCalls 3 = .ok (.bipush 12, 2) := by decide +kernel
theorem dX0_setCalls_5 : decode cX0_setCalls 5 = .ok (.if_icmp .ge 23, 3) := by decide +kernel
theorem dX0_setCalls_8 : decode cX0_setCalls 8 = .ok (.aload_n 0, 1) := by decide +kernel
theorem dX0_setCalls_9 : decode cX0_setCalls 9 = .ok (.getfield 9, 3) := by decide +kernel
theorem dX0_setCalls_12 : decode cX0_setCalls 12 = .ok (.iload_n 1, 1) := by decide +kernel
theorem dX0_setCalls_13 : decode cX0_setCalls 13 = .ok (.bipush 12, 2) := by decide +kernel
theorem dX0_setCalls_15 : decode cX0_setCalls 15 = .ok (.imul, 1) := by decide +kernel
theorem dX0_setCalls_16 : decode cX0_setCalls 16 = .ok (.iload_n 3, 1) := by decide +kernel
theorem dX0_setCalls_17 : decode cX0_setCalls 17 = .ok (.iadd, 1) := by decide +kernel
theorem dX0_setCalls_18 : decode cX0_setCalls 18 = .ok (.iconst 0, 1) := by decide +kernel
theorem dX0_setCalls_19 : decode cX0_setCalls 19 = .ok (.invokestatic 31, 3) := by decide +kernel
theorem dX0_setCalls_22 : decode cX0_setCalls 22 = .ok (.iinc 3 1, 3) := by decide +kernel
theorem dX0_setCalls_25 : decode cX0_setCalls 25 = .ok (.goto (-23), 3) := by decide +kernel
theorem dX0_setCalls_28 : decode cX0_setCalls 28 = .ok (.iconst 0, 1) := by decide +kernel
theorem dX0_setCalls_29 : decode cX0_setCalls 29 = .ok (.istore_n 3, 1) := by decide +kernel
theorem dX0_setCalls_30 : decode cX0_setCalls 30 = .ok (.iconst 0, 1) := by decide +kernel
theorem dX0_setCalls_31 : decode cX0_setCalls 31 = .ok (.istore 4, 2) := by decide +kernel
theorem dX0_setCalls_33 : decode cX0_setCalls 33 = .ok (.iload 4, 2) := by decide +kernel
theorem dX0_setCalls_35 : decode cX0_setCalls 35 = .ok (.aload_n 2, 1) := by decide +kernel
theorem dX0_setCalls_36 : decode cX0_setCalls 36 = .ok (.getfield 35, 3) := by decide +kernel
theorem dX0_setCalls_39 : decode cX0_setCalls 39 = .ok (.if_icmp .ge 95, 3) := by decide +kernel
theorem dX0_setCalls_42 : decode cX0_setCalls 42 = .ok (.aload_n 2, 1) := by decide +kernel
theorem dX0_setCalls_43 : decode cX0_setCalls 43 = .ok (.iload 4, 2) := by decide +kernel
theorem dX0_setCalls_45 : decode cX0_setCalls 45 = .ok (.invokevirtual 41, 3) := by decide +kernel
theorem dX0_setCalls_48 : decode cX0_setCalls 48 = .ok (.tableswitch 80 0 5 #[74, 74, 74, 74, 40, 40], 40) := by decide +kernel
theorem dX0_setCalls_88 : decode cX0_setCalls 88 = .ok (.aload_n 2, 1) := by decide +kernel
theorem dX0_setCalls_89 : decode cX0_setCalls 89 = .ok (.iload 4, 2) := by decide +kernel
theorem dX0_setCalls_91 : decode cX0_setCalls 91 = .ok (.invokevirtual 45, 3) := by decide +kernel
theorem dX0_setCalls_94 : decode cX0_setCalls 94 = .ok (.istore 5, 2) := by decide +kernel
theorem dX0_setCalls_96 : decode cX0_setCalls 96 = .ok (.aload_n 0, 1) := by decide +kernel
theorem dX0_setCalls_97 : decode cX0_setCalls 97 = .ok (.getfield 9, 3) := by decide +kernel
theorem dX0_setCalls_100 : decode cX0_setCalls 100 = .ok (.iload_n 1, 1) := by decide +kernel
theorem dX0_setCalls_101 : decode cX0_setCalls 101 = .ok (.bipush 12, 2) := by decide +kernel
theorem dX0_setCalls_103 : decode cX0_setCalls 103 = .ok (.imul, 1) := by decide +kernel
theorem dX0_setCalls_104 : decode cX0_setCalls 104 = .ok (.iload 5, 2) := by decide +kernel
theorem dX0_setCalls_106 : decode cX0_setCalls 106 = .ok (.iadd, 1) := by decide +kernel
theorem dX0_setCalls_107 : decode cX0_setCalls 107 = .ok (.aload_n 0, 1) := by decide +kernel
theorem dX0_setCalls_108 : decode cX0_setCalls 108 = .ok (.iload_n 1, 1) := by decide +kernel
theorem dX0_setCalls_109 : decode cX0_setCalls 109 = .ok (.iload 5, 2) := by decide +kernel
theorem dX0_setCalls_111 : decode cX0_setCalls 111 = .ok (.invokevirtual 48, 3) := by decide +kernel
theorem dX0_setCalls_114 : decode cX0_setCalls 114 = .ok (.iconst 1, 1) := by decide +kernel
theorem dX0_setCalls_115 : decode cX0_setCalls 115 = .ok (.iadd, 1) := by decide +kernel
theorem dX0_setCalls_116 : decode cX0_setCalls 116 = .ok (.invokestatic 31, 3) := by decide +kernel
theorem dX0_setCalls_119 : decode cX0_setCalls 119 = .ok (.goto 9, 3) := by decide +kernel
theorem dX0_setCalls_122 : decode cX0_setCalls 122 = .ok (.iinc 3 1, 3) := by decide +kernel
theorem dX0_setCalls_125 : decode cX0_setCalls 125 = .ok (.goto 3, 3) := by decide +kernel
theorem dX0_setCalls_128 : decode cX0_setCalls 128 = .ok (.iinc 4 1, 3) := by decide +kernel
theorem dX0_setCalls_131 : decode cX0_setCalls 131 = .ok (.goto (-98), 3) := by decide +kernel
theorem dX0_setCalls_134 : decode cX0_setCalls 134 = .ok (.aload_n 0, 1) := by decide +kernel
theorem dX0_setCalls_135 : decode cX0_setCalls 135 = .ok (.getfield 15, 3) := by decide +kernel
theorem dX0_setCalls_138 : decode cX0_setCalls 138 = .ok (.iload_n 1, 1) := by decide +kernel
theorem dX0_setCalls_139 : decode cX0_setCalls 139 = .ok (.iload_n 3, 1) := by decide +kernel
theorem dX0_setCalls_140 : decode cX0_setCalls 140 = .ok (.invokestatic 31, 3) := by decide +kernel
theorem dX0_setCalls_143 : decode cX0_setCalls 143 = .ok (.return_, 1) := by decide +kernel
theorem dX0_findReached_0 : decode cX0_findReached 0 = .ok (.iconst 0, 1) := by decide +kernel
theorem dX0_findReached_1 : decode cX0_findReached 1 = .ok (.istore_n 1, 1) := by decide +kernel
theorem dX0_findReached_2 : decode cX0_findReached 2 = .ok (.iload_n 1, 1) := by decide +kernel
theorem dX0_findReached_3 : decode cX0_findReached 3 = .ok (.bipush 12, 2) := by decide +kernel
theorem dX0_findReached_5 : decode cX0_findReached 5 = .ok (.if_icmp .ge 53, 3) := by decide +kernel
theorem dX0_findReached_8 : decode cX0_findReached 8 = .ok (.iconst 0, 1) := by decide +kernel
theorem dX0_findReached_9 : decode cX0_findReached 9 = .ok (.istore_n 2, 1) := by decide +kernel
theorem dX0_findReached_10 : decode cX0_findReached 10 = .ok (.iconst 0, 1) := by decide +kernel
theorem dX0_findReached_11 : decode cX0_findReached 11 = .ok (.istore_n 3, 1) := by decide +kernel
theorem dX0_findReached_12 : decode cX0_findReached 12 = .ok (.iload_n 3, 1) := by decide +kernel
theorem dX0_findReached_13 : decode cX0_findReached 13 = .ok (.bipush 12, 2) := by decide +kernel
theorem dX0_findReached_15 : decode cX0_findReached 15 = .ok (.if_icmp .ge 28, 3) := by decide +kernel
theorem dX0_findReached_18 : decode cX0_findReached 18 = .ok (.iload_n 2, 1) := by decide +kernel
theorem dX0_findReached_19 : decode cX0_findReached 19 = .ok (.aload_n 0, 1) := by decide +kernel
theorem dX0_findReached_20 : decode cX0_findReached 20 = .ok (.iload_n 1, 1) := by decide +kernel
theorem dX0_findReached_21 : decode cX0_findReached 21 = .ok (.iload_n 3, 1) := by decide +kernel
theorem dX0_findReached_22 : decode cX0_findReached 22 = .ok (.invokevirtual 48, 3) := by decide +kernel
theorem dX0_findReached_25 : decode cX0_findReached 25 = .ok (.ifCond .le 9, 3) := by decide +kernel
theorem dX0_findReached_28 : decode cX0_findReached 28 = .ok (.iconst 1, 1) := by decide +kernel
theorem dX0_findReached_29 : decode cX0_findReached 29 = .ok (.iload_n 3, 1) := by decide +kernel
theorem dX0_findReached_30 : decode cX0_findReached 30 = .ok (.ishl, 1) := by decide +kernel
theorem dX0_findReached_31 : decode cX0_findReached 31 = .ok (.goto 4, 3) := by decide +kernel
theorem dX0_findReached_34 : decode cX0_findReached 34 = .ok (.iconst 0, 1) := by decide +kernel
theorem dX0_findReached_35 : decode cX0_findReached 35 = .ok (.ior, 1) := by decide +kernel
theorem dX0_findReached_36 : decode cX0_findReached 36 = .ok (.istore_n 2, 1) := by decide +kernel
theorem dX0_findReached_37 : decode cX0_findReached 37 = .ok (.iinc 3 1, 3) := by decide +kernel
theorem dX0_findReached_40 : decode cX0_findReached 40 = .ok (.goto (-28), 3) := by decide +kernel
theorem dX0_findReached_43 : decode cX0_findReached 43 = .ok (.aload_n 0, 1) := by decide +kernel
theorem dX0_findReached_44 : decode cX0_findReached 44 = .ok (.getfield 18, 3) := by decide +kernel
theorem dX0_findReached_47 : decode cX0_findReached 47 = .ok (.iload_n 1, 1) := by decide +kernel
theorem dX0_findReached_48 : decode cX0_findReached 48 = .ok (.iload_n 2, 1) := by decide +kernel
theorem dX0_findReached_49 : decode cX0_findReached 49 = .ok (.invokestatic 31, 3) := by decide +kernel
theorem dX0_findReached_52 : decode cX0_findReached 52 = .ok (.iinc 1 1, 3) := by decide +kernel
theorem dX0_findReached_55 : decode cX0_findReached 55 = .ok (.goto (-53), 3) := by decide +kernel
theorem dX0_findReached_58 : decode cX0_findReached 58 = .ok (.iconst 0, 1) := by decide +kernel
theorem dX0_findReached_59 : decode cX0_findReached 59 = .ok (.istore_n 1, 1) := by decide +kernel
theorem dX0_findReached_60 : decode cX0_findReached 60 = .ok (.iload_n 1, 1) := by decide +kernel
theorem dX0_findReached_61 : decode cX0_findReached 61 = .ok (.bipush 12, 2) := by decide +kernel
theorem dX0_findReached_63 : decode cX0_findReached 63 = .ok (.if_icmp .ge 54, 3) := by decide +kernel
theorem dX0_findReached_66 : decode cX0_findReached 66 = .ok (.iconst 0, 1) := by decide +kernel
theorem dX0_findReached_67 : decode cX0_findReached 67 = .ok (.istore_n 2, 1) := by decide +kernel
theorem dX0_findReached_68 : decode cX0_findReached 68 = .ok (.iload_n 2, 1) := by decide +kernel
theorem dX0_findReached_69 : decode cX0_findReached 69 = .ok (.bipush 12, 2) := by decide +kernel
theorem dX0_findReached_71 : decode cX0_findReached 71 = .ok (.if_icmp .ge 40, 3) := by decide +kernel
theorem dX0_findReached_74 : decode cX0_findReached 74 = .ok (.aload_n 0, 1) := by decide +kernel
theorem dX0_findReached_75 : decode cX0_findReached 75 = .ok (.iload_n 2, 1) := by decide +kernel
theorem dX0_findReached_76 : decode cX0_findReached 76 = .ok (.invokevirtual 52, 3) := by decide +kernel
theorem dX0_findReached_79 : decode cX0_findReached 79 = .ok (.iload_n 1, 1) := by decide +kernel
theorem dX0_findReached_80 : decode cX0_findReached 80 = .ok (.invokestatic 55, 3) := by decide +kernel
theorem dX0_findReached_83 : decode cX0_findReached 83 = .ok (.ifCond .eq 22, 3) := by decide +kernel
theorem dX0_findReached_86 : decode cX0_findReached 86 = .ok (.aload_n 0, 1) := by decide +kernel
theorem dX0_findReached_87 : decode cX0_findReached 87 = .ok (.getfield 18, 3) := by decide +kernel
theorem dX0_findReached_90 : decode cX0_findReached 90 = .ok (.iload_n 2, 1) := by decide +kernel
theorem dX0_findReached_91 : decode cX0_findReached 91 = .ok (.aload_n 0, 1) := by decide +kernel
theorem dX0_findReached_92 : decode cX0_findReached 92 = .ok (.iload_n 2, 1) := by decide +kernel
theorem dX0_findReached_93 : decode cX0_findReached 93 = .ok (.invokevirtual 52, 3) := by decide +kernel
theorem dX0_findReached_96 : decode cX0_findReached 96 = .ok (.aload_n 0, 1) := by decide +kernel
theorem dX0_findReached_97 : decode cX0_findReached 97 = .ok (.iload_n 1, 1) := by decide +kernel
theorem dX0_findReached_98 : decode cX0_findReached 98 = .ok (.invokevirtual 52, 3) := by decide +kernel
theorem dX0_findReached_101 : decode cX0_findReached 101 = .ok (.ior, 1) := by decide +kernel
theorem dX0_findReached_102 : decode cX0_findReached 102 = .ok (.invokestatic 31, 3) := by decide +kernel
theorem dX0_findReached_105 : decode cX0_findReached 105 = .ok (.iinc 2 1, 3) := by decide +kernel
theorem dX0_findReached_108 : decode cX0_findReached 108 = .ok (.goto (-40), 3) := by decide +kernel
theorem dX0_findReached_111 : decode cX0_findReached 111 = .ok (.iinc 1 1, 3) := by decide +kernel
theorem dX0_findReached_114 : decode cX0_findReached 114 = .ok (.goto (-54), 3) := by decide +kernel
theorem dX0_findReached_117 : decode cX0_findReached 117 = .ok (.return_, 1) := by decide +kernel
theorem dX0_findDepths_0 : decode cX0_findDepths 0 = .ok (.iconst 0, 1) := by decide +kernel
theorem dX0_findDepths_1 : decode cX0_findDepths 1 = .ok (.istore_n 1, 1) := by decide +kernel
theorem dX0_findDepths_2 : decode cX0_findDepths 2 = .ok (.iload_n 1, 1) := by decide +kernel
theorem dX0_findDepths_3 : decode cX0_findDepths 3 = .ok (.bipush 12, 2) := by decide +kernel
theorem dX0_findDepths_5 : decode cX0_findDepths 5 = .ok (.if_icmp .ge 18, 3) := by decide +kernel
theorem dX0_findDepths_8 : decode cX0_findDepths 8 = .ok (.aload_n 0, 1) := by decide +kernel
theorem dX0_findDepths_9 : decode cX0_findDepths 9 = .ok (.getfield 21, 3) := by decide +kernel
theorem dX0_findDepths_12 : decode cX0_findDepths 12 = .ok (.iload_n 1, 1) := by decide +kernel
theorem dX0_findDepths_13 : decode cX0_findDepths 13 = .ok (.iconst 0, 1) := by decide +kernel
theorem dX0_findDepths_14 : decode cX0_findDepths 14 = .ok (.invokestatic 31, 3) := by decide +kernel
theorem dX0_findDepths_17 : decode cX0_findDepths 17 = .ok (.iinc 1 1, 3) := by decide +kernel
theorem dX0_findDepths_20 : decode cX0_findDepths 20 = .ok (.goto (-18), 3) := by decide +kernel
theorem dX0_findDepths_23 : decode cX0_findDepths 23 = .ok (.iconst 1, 1) := by decide +kernel
theorem dX0_findDepths_24 : decode cX0_findDepths 24 = .ok (.istore_n 1, 1) := by decide +kernel
theorem dX0_findDepths_25 : decode cX0_findDepths 25 = .ok (.iload_n 1, 1) := by decide +kernel
theorem dX0_findDepths_26 : decode cX0_findDepths 26 = .ok (.bipush 12, 2) := by decide +kernel
theorem dX0_findDepths_28 : decode cX0_findDepths 28 = .ok (.if_icmp .ge 36, 3) := by decide +kernel
theorem dX0_findDepths_31 : decode cX0_findDepths 31 = .ok (.iconst 0, 1) := by decide +kernel
theorem dX0_findDepths_32 : decode cX0_findDepths 32 = .ok (.istore_n 2, 1) := by decide +kernel
theorem dX0_findDepths_33 : decode cX0_findDepths 33 = .ok (.iload_n 2, 1) := by decide +kernel
theorem dX0_findDepths_34 : decode cX0_findDepths 34 = .ok (.bipush 12, 2) := by decide +kernel
theorem dX0_findDepths_36 : decode cX0_findDepths 36 = .ok (.if_icmp .ge 22, 3) := by decide +kernel
theorem dX0_findDepths_39 : decode cX0_findDepths 39 = .ok (.aload_n 0, 1) := by decide +kernel
theorem dX0_findDepths_40 : decode cX0_findDepths 40 = .ok (.getfield 21, 3) := by decide +kernel
theorem dX0_findDepths_43 : decode cX0_findDepths 43 = .ok (.iload_n 2, 1) := by decide +kernel
theorem dX0_findDepths_44 : decode cX0_findDepths 44 = .ok (.aload_n 0, 1) := by decide +kernel
theorem dX0_findDepths_45 : decode cX0_findDepths 45 = .ok (.iload_n 2, 1) := by decide +kernel
theorem dX0_findDepths_46 : decode cX0_findDepths 46 = .ok (.invokevirtual 59, 3) := by decide +kernel
theorem dX0_findDepths_49 : decode cX0_findDepths 49 = .ok (.invokestatic 31, 3) := by decide +kernel
theorem dX0_findDepths_52 : decode cX0_findDepths 52 = .ok (.iinc 2 1, 3) := by decide +kernel
theorem dX0_findDepths_55 : decode cX0_findDepths 55 = .ok (.goto (-22), 3) := by decide +kernel
theorem dX0_findDepths_58 : decode cX0_findDepths 58 = .ok (.iinc 1 1, 3) := by decide +kernel
theorem dX0_findDepths_61 : decode cX0_findDepths 61 = .ok (.goto (-36), 3) := by decide +kernel
theorem dX0_findDepths_64 : decode cX0_findDepths 64 = .ok (.return_, 1) := by decide +kernel
theorem dX0_depthOverCalled_0 : decode cX0_depthOverCalled 0 = .ok (.iconst 0, 1) := by decide +kernel
theorem dX0_depthOverCalled_1 : decode cX0_depthOverCalled 1 = .ok (.istore_n 2, 1) := by decide +kernel
theorem dX0_depthOverCalled_2 : decode cX0_depthOverCalled 2 = .ok (.iconst 0, 1) := by decide +kernel
theorem dX0_depthOverCalled_3 : decode cX0_depthOverCalled 3 = .ok (.istore_n 3, 1) := by decide +kernel
theorem dX0_depthOverCalled_4 : decode cX0_depthOverCalled 4 = .ok (.iload_n 3, 1) := by decide +kernel
theorem dX0_depthOverCalled_5 : decode cX0_depthOverCalled 5 = .ok (.bipush 12, 2) := by decide +kernel
theorem dX0_depthOverCalled_7 : decode cX0_depthOverCalled 7 = .ok (.if_icmp .ge 30, 3) := by decide +kernel
theorem dX0_depthOverCalled_10 : decode cX0_depthOverCalled 10 = .ok (.aload_n 0, 1) := by decide +kernel
theorem dX0_depthOverCalled_11 : decode cX0_depthOverCalled 11 = .ok (.iload_n 1, 1) := by decide +kernel
theorem dX0_depthOverCalled_12 : decode cX0_depthOverCalled 12 = .ok (.iload_n 3, 1) := by decide +kernel
theorem dX0_depthOverCalled_13 : decode cX0_depthOverCalled 13 = .ok (.invokevirtual 48, 3) := by decide +kernel
theorem dX0_depthOverCalled_16 : decode cX0_depthOverCalled 16 = .ok (.ifCond .le 15, 3) := by decide +kernel
theorem dX0_depthOverCalled_19 : decode cX0_depthOverCalled 19 = .ok (.iload_n 2, 1) := by decide +kernel
theorem dX0_depthOverCalled_20 : decode cX0_depthOverCalled 20 = .ok (.aload_n 0, 1) := by decide +kernel
theorem dX0_depthOverCalled_21 : decode cX0_depthOverCalled 21 = .ok (.iload_n 3, 1) := by decide +kernel
theorem dX0_depthOverCalled_22 : decode cX0_depthOverCalled 22 = .ok (.invokevirtual 62, 3) := by decide +kernel
theorem dX0_depthOverCalled_25 : decode cX0_depthOverCalled 25 = .ok (.iconst 1, 1) := by decide +kernel
theorem dX0_depthOverCalled_26 : decode cX0_depthOverCalled 26 = .ok (.iadd, 1) := by decide +kernel
theorem dX0_depthOverCalled_27 : decode cX0_depthOverCalled 27 = .ok (.invokestatic 65, 3) := by decide +kernel
theorem dX0_depthOverCalled_30 : decode cX0_depthOverCalled 30 = .ok (.istore_n 2, 1) := by decide +kernel
theorem dX0_depthOverCalled_31 : decode cX0_depthOverCalled 31 = .ok (.iinc 3 1, 3) := by decide +kernel
theorem dX0_depthOverCalled_34 : decode cX0_depthOverCalled 34 = .ok (.goto (-30), 3) := by decide +kernel
theorem dX0_depthOverCalled_37 : decode cX0_depthOverCalled 37 = .ok (.iload_n 2, 1) := by decide +kernel
theorem dX0_depthOverCalled_38 : decode cX0_depthOverCalled 38 = .ok (.ireturn, 1) := by decide +kernel
theorem dX0_findExtents_0 : decode cX0_findExtents 0 = .ok (.iconst 0, 1) := by decide +kernel
theorem dX0_findExtents_1 : decode cX0_findExtents 1 = .ok (.istore_n 1, 1) := by decide +kernel
theorem dX0_findExtents_2 : decode cX0_findExtents 2 = .ok (.iload_n 1, 1) := by decide +kernel
theorem dX0_findExtents_3 : decode cX0_findExtents 3 = .ok (.iconst 5, 1) := by decide +kernel
theorem dX0_findExtents_4 : decode cX0_findExtents 4 = .ok (.if_icmp .gt 45, 3) := by decide +kernel
theorem dX0_findExtents_7 : decode cX0_findExtents 7 = .ok (.iconst 0, 1) := by decide +kernel
theorem dX0_findExtents_8 : decode cX0_findExtents 8 = .ok (.istore_n 2, 1) := by decide +kernel
theorem dX0_findExtents_9 : decode cX0_findExtents 9 = .ok (.iload_n 2, 1) := by decide +kernel
theorem dX0_findExtents_10 : decode cX0_findExtents 10 = .ok (.bipush 12, 2) := by decide +kernel
theorem dX0_findExtents_12 : decode cX0_findExtents 12 = .ok (.if_icmp .ge 31, 3) := by decide +kernel
theorem dX0_findExtents_15 : decode cX0_findExtents 15 = .ok (.aload_n 0, 1) := by decide +kernel
theorem dX0_findExtents_16 : decode cX0_findExtents 16 = .ok (.iload_n 2, 1) := by decide +kernel
theorem dX0_findExtents_17 : decode cX0_findExtents 17 = .ok (.invokevirtual 62, 3) := by decide +kernel
theorem dX0_findExtents_20 : decode cX0_findExtents 20 = .ok (.iload_n 1, 1) := by decide +kernel
theorem dX0_findExtents_21 : decode cX0_findExtents 21 = .ok (.if_icmp .ne 16, 3) := by decide +kernel
theorem dX0_findExtents_24 : decode cX0_findExtents 24 = .ok (.aload_n 0, 1) := by decide +kernel
theorem dX0_findExtents_25 : decode cX0_findExtents 25 = .ok (.getfield 24, 3) := by decide +kernel
theorem dX0_findExtents_28 : decode cX0_findExtents 28 = .ok (.iload_n 2, 1) := by decide +kernel
theorem dX0_findExtents_29 : decode cX0_findExtents 29 = .ok (.aload_n 0, 1) := by decide +kernel
theorem dX0_findExtents_30 : decode cX0_findExtents 30 = .ok (.iload_n 2, 1) := by decide +kernel
theorem dX0_findExtents_31 : decode cX0_findExtents 31 = .ok (.invokevirtual 70, 3) := by decide +kernel
theorem dX0_findExtents_34 : decode cX0_findExtents 34 = .ok (.invokestatic 31, 3) := by decide +kernel
theorem dX0_findExtents_37 : decode cX0_findExtents 37 = .ok (.iinc 2 1, 3) := by decide +kernel
theorem dX0_findExtents_40 : decode cX0_findExtents 40 = .ok (.goto (-31), 3) := by decide +kernel
theorem dX0_findExtents_43 : decode cX0_findExtents 43 = .ok (.iinc 1 1, 3) := by decide +kernel
theorem dX0_findExtents_46 : decode cX0_findExtents 46 = .ok (.goto (-44), 3) := by decide +kernel
theorem dX0_findExtents_49 : decode cX0_findExtents 49 = .ok (.return_, 1) := by decide +kernel
theorem dX0_extentOverCalled_0 : decode cX0_extentOverCalled 0 = .ok (.aload_n 0, 1) := by decide +kernel
theorem dX0_extentOverCalled_1 : decode cX0_extentOverCalled 1 = .ok (.getfield 15, 3) := by decide +kernel
theorem dX0_extentOverCalled_4 : decode cX0_extentOverCalled 4 = .ok (.iload_n 1, 1) := by decide +kernel
theorem dX0_extentOverCalled_5 : decode cX0_extentOverCalled 5 = .ok (.invokestatic 27, 3) := by decide +kernel
theorem dX0_extentOverCalled_8 : decode cX0_extentOverCalled 8 = .ok (.istore_n 2, 1) := by decide +kernel
theorem dX0_extentOverCalled_9 : decode cX0_extentOverCalled 9 = .ok (.iconst 0, 1) := by decide +kernel
theorem dX0_extentOverCalled_10 : decode cX0_extentOverCalled 10 = .ok (.istore_n 3, 1) := by decide +kernel
theorem dX0_extentOverCalled_11 : decode cX0_extentOverCalled 11 = .ok (.iload_n 3, 1) := by decide +kernel
theorem dX0_extentOverCalled_12 : decode cX0_extentOverCalled 12 = .ok (.bipush 12, 2) := by decide +kernel
theorem dX0_extentOverCalled_14 : decode cX0_extentOverCalled 14 = .ok (.if_icmp .ge 33, 3) := by decide +kernel
theorem dX0_extentOverCalled_17 : decode cX0_extentOverCalled 17 = .ok (.aload_n 0, 1) := by decide +kernel
theorem dX0_extentOverCalled_18 : decode cX0_extentOverCalled 18 = .ok (.iload_n 1, 1) := by decide +kernel
theorem dX0_extentOverCalled_19 : decode cX0_extentOverCalled 19 = .ok (.iload_n 3, 1) := by decide +kernel
theorem dX0_extentOverCalled_20 : decode cX0_extentOverCalled 20 = .ok (.invokevirtual 48, 3) := by decide +kernel
theorem dX0_extentOverCalled_23 : decode cX0_extentOverCalled 23 = .ok (.ifCond .le 18, 3) := by decide +kernel
theorem dX0_extentOverCalled_26 : decode cX0_extentOverCalled 26 = .ok (.iload_n 2, 1) := by decide +kernel
theorem dX0_extentOverCalled_27 : decode cX0_extentOverCalled 27 = .ok (.aload_n 0, 1) := by decide +kernel
theorem dX0_extentOverCalled_28 : decode cX0_extentOverCalled 28 = .ok (.iload_n 1, 1) := by decide +kernel
theorem dX0_extentOverCalled_29 : decode cX0_extentOverCalled 29 = .ok (.iload_n 3, 1) := by decide +kernel
theorem dX0_extentOverCalled_30 : decode cX0_extentOverCalled 30 = .ok (.invokevirtual 48, 3) := by decide +kernel
theorem dX0_extentOverCalled_33 : decode cX0_extentOverCalled 33 = .ok (.aload_n 0, 1) := by decide +kernel
theorem dX0_extentOverCalled_34 : decode cX0_extentOverCalled 34 = .ok (.iload_n 3, 1) := by decide +kernel
theorem dX0_extentOverCalled_35 : decode cX0_extentOverCalled 35 = .ok (.invokevirtual 73, 3) := by decide +kernel
theorem dX0_extentOverCalled_38 : decode cX0_extentOverCalled 38 = .ok (.imul, 1) := by decide +kernel
theorem dX0_extentOverCalled_39 : decode cX0_extentOverCalled 39 = .ok (.iadd, 1) := by decide +kernel
theorem dX0_extentOverCalled_40 : decode cX0_extentOverCalled 40 = .ok (.istore_n 2, 1) := by decide +kernel
theorem dX0_extentOverCalled_41 : decode cX0_extentOverCalled 41 = .ok (.iinc 3 1, 3) := by decide +kernel
theorem dX0_extentOverCalled_44 : decode cX0_extentOverCalled 44 = .ok (.goto (-33), 3) := by decide +kernel
theorem dX0_extentOverCalled_47 : decode cX0_extentOverCalled 47 = .ok (.iload_n 2, 1) := by decide +kernel
theorem dX0_extentOverCalled_48 : decode cX0_extentOverCalled 48 = .ok (.bipush 101, 2) := by decide +kernel
theorem dX0_extentOverCalled_50 : decode cX0_extentOverCalled 50 = .ok (.invokestatic 76, 3) := by decide +kernel
theorem dX0_extentOverCalled_53 : decode cX0_extentOverCalled 53 = .ok (.ireturn, 1) := by decide +kernel
theorem dX0_callsOf_0 : decode cX0_callsOf 0 = .ok (.aload_n 0, 1) := by decide +kernel
theorem dX0_callsOf_1 : decode cX0_callsOf 1 = .ok (.getfield 9, 3) := by decide +kernel
theorem dX0_callsOf_4 : decode cX0_callsOf 4 = .ok (.iload_n 1, 1) := by decide +kernel
theorem dX0_callsOf_5 : decode cX0_callsOf 5 = .ok (.bipush 12, 2) := by decide +kernel
theorem dX0_callsOf_7 : decode cX0_callsOf 7 = .ok (.imul, 1) := by decide +kernel
theorem dX0_callsOf_8 : decode cX0_callsOf 8 = .ok (.iload_n 2, 1) := by decide +kernel
theorem dX0_callsOf_9 : decode cX0_callsOf 9 = .ok (.iadd, 1) := by decide +kernel
theorem dX0_callsOf_10 : decode cX0_callsOf 10 = .ok (.invokestatic 27, 3) := by decide +kernel
theorem dX0_callsOf_13 : decode cX0_callsOf 13 = .ok (.ireturn, 1) := by decide +kernel
theorem dX0_reachedFrom_0 : decode cX0_reachedFrom 0 = .ok (.aload_n 0, 1) := by decide +kernel
theorem dX0_reachedFrom_1 : decode cX0_reachedFrom 1 = .ok (.getfield 18, 3) := by decide +kernel
theorem dX0_reachedFrom_4 : decode cX0_reachedFrom 4 = .ok (.iload_n 1, 1) := by decide +kernel
theorem dX0_reachedFrom_5 : decode cX0_reachedFrom 5 = .ok (.invokestatic 27, 3) := by decide +kernel
theorem dX0_reachedFrom_8 : decode cX0_reachedFrom 8 = .ok (.ireturn, 1) := by decide +kernel
theorem dX0_depthOf_0 : decode cX0_depthOf 0 = .ok (.aload_n 0, 1) := by decide +kernel
theorem dX0_depthOf_1 : decode cX0_depthOf 1 = .ok (.getfield 21, 3) := by decide +kernel
theorem dX0_depthOf_4 : decode cX0_depthOf 4 = .ok (.iload_n 1, 1) := by decide +kernel
theorem dX0_depthOf_5 : decode cX0_depthOf 5 = .ok (.invokestatic 27, 3) := by decide +kernel
theorem dX0_depthOf_8 : decode cX0_depthOf 8 = .ok (.ireturn, 1) := by decide +kernel
theorem dX0_extentOf_0 : decode cX0_extentOf 0 = .ok (.aload_n 0, 1) := by decide +kernel
theorem dX0_extentOf_1 : decode cX0_extentOf 1 = .ok (.getfield 24, 3) := by decide +kernel
theorem dX0_extentOf_4 : decode cX0_extentOf 4 = .ok (.iload_n 1, 1) := by decide +kernel
theorem dX0_extentOf_5 : decode cX0_extentOf 5 = .ok (.invokestatic 27, 3) := by decide +kernel
theorem dX0_extentOf_8 : decode cX0_extentOf 8 = .ok (.ireturn, 1) := by decide +kernel
theorem dX0_greatestDepth_0 : decode cX0_greatestDepth 0 = .ok (.aload_n 0, 1) := by decide +kernel
theorem dX0_greatestDepth_1 : decode cX0_greatestDepth 1 = .ok (.getfield 21, 3) := by decide +kernel
theorem dX0_greatestDepth_4 : decode cX0_greatestDepth 4 = .ok (.invokestatic 79, 3) := by decide +kernel
theorem dX0_greatestDepth_7 : decode cX0_greatestDepth 7 = .ok (.ireturn, 1) := by decide +kernel
theorem dX0_greatestExtent_0 : decode cX0_greatestExtent 0 = .ok (.aload_n 0, 1) := by decide +kernel
theorem dX0_greatestExtent_1 : decode cX0_greatestExtent 1 = .ok (.getfield 24, 3) := by decide +kernel
theorem dX0_greatestExtent_4 : decode cX0_greatestExtent 4 = .ok (.invokestatic 79, 3) := by decide +kernel
theorem dX0_greatestExtent_7 : decode cX0_greatestExtent 7 = .ok (.ireturn, 1) := by decide +kernel
theorem dX1_init_0 : decode cX1_init 0 = .ok (.aload_n 0, 1) := by decide +kernel
theorem dX1_init_1 : decode cX1_init 1 = .ok (.invokespecial 3, 3) := by decide +kernel
theorem dX1_init_4 : decode cX1_init 4 = .ok (.aload_n 0, 1) := by decide +kernel
theorem dX1_init_5 : decode cX1_init 5 = .ok (.new 9, 3) := by decide +kernel
theorem dX1_init_8 : decode cX1_init 8 = .ok (.dup, 1) := by decide +kernel
theorem dX1_init_9 : decode cX1_init 9 = .ok (.aconst_null, 1) := by decide +kernel
theorem dX1_init_10 : decode cX1_init 10 = .ok (.iconst 0, 1) := by decide +kernel
theorem dX1_init_11 : decode cX1_init 11 = .ok (.new 11, 3) := by decide +kernel
theorem dX1_init_14 : decode cX1_init 14 = .ok (.dup, 1) := by decide +kernel
theorem dX1_init_15 : decode cX1_init 15 = .ok (.invokespecial 13, 3) := by decide +kernel
theorem dX1_init_18 : decode cX1_init 18 = .ok (.iconst 3, 1) := by decide +kernel
theorem dX1_init_19 : decode cX1_init 19 = .ok (.invokespecial 14, 3) := by decide +kernel
theorem dX1_init_22 : decode cX1_init 22 = .ok (.putfield 17, 3) := by decide +kernel
theorem dX1_init_25 : decode cX1_init 25 = .ok (.aload_n 0, 1) := by decide +kernel
theorem dX1_init_26 : decode cX1_init 26 = .ok (.iconst 0, 1) := by decide +kernel
theorem dX1_init_27 : decode cX1_init 27 = .ok (.putfield 23, 3) := by decide +kernel
theorem dX1_init_30 : decode cX1_init 30 = .ok (.aload_n 0, 1) := by decide +kernel
theorem dX1_init_31 : decode cX1_init 31 = .ok (.new 27, 3) := by decide +kernel
theorem dX1_init_34 : decode cX1_init 34 = .ok (.dup, 1) := by decide +kernel
theorem dX1_init_35 : decode cX1_init 35 = .ok (.invokespecial 29, 3) := by decide +kernel
theorem dX1_init_38 : decode cX1_init 38 = .ok (.putfield 30, 3) := by decide +kernel
theorem dX1_init_41 : decode cX1_init 41 = .ok (.return_, 1) := by decide +kernel
theorem dX2_init_0 : decode cX2_init 0 = .ok (.aload_n 0, 1) := by decide +kernel
theorem dX2_init_1 : decode cX2_init 1 = .ok (.invokespecial 3, 3) := by decide +kernel
theorem dX2_init_4 : decode cX2_init 4 = .ok (.aload_n 0, 1) := by decide +kernel
theorem dX2_init_5 : decode cX2_init 5 = .ok (.bipush 100, 2) := by decide +kernel
theorem dX2_init_7 : decode cX2_init 7 = .ok (.newarray .int, 2) := by decide +kernel
theorem dX2_init_9 : decode cX2_init 9 = .ok (.putfield 9, 3) := by decide +kernel
theorem dX2_init_12 : decode cX2_init 12 = .ok (.aload_n 0, 1) := by decide +kernel
theorem dX2_init_13 : decode cX2_init 13 = .ok (.bipush 100, 2) := by decide +kernel
theorem dX2_init_15 : decode cX2_init 15 = .ok (.newarray .int, 2) := by decide +kernel
theorem dX2_init_17 : decode cX2_init 17 = .ok (.putfield 15, 3) := by decide +kernel
theorem dX2_init_20 : decode cX2_init 20 = .ok (.aload_n 0, 1) := by decide +kernel
theorem dX2_init_21 : decode cX2_init 21 = .ok (.bipush 100, 2) := by decide +kernel
theorem dX2_init_23 : decode cX2_init 23 = .ok (.newarray .int, 2) := by decide +kernel
theorem dX2_init_25 : decode cX2_init 25 = .ok (.putfield 18, 3) := by decide +kernel
theorem dX2_init_28 : decode cX2_init 28 = .ok (.aload_n 0, 1) := by decide +kernel
theorem dX2_init_29 : decode cX2_init 29 = .ok (.bipush 100, 2) := by decide +kernel
theorem dX2_init_31 : decode cX2_init 31 = .ok (.newarray .int, 2) := by decide +kernel
theorem dX2_init_33 : decode cX2_init 33 = .ok (.putfield 21, 3) := by decide +kernel
theorem dX2_init_36 : decode cX2_init 36 = .ok (.aload_n 0, 1) := by decide +kernel
theorem dX2_init_37 : decode cX2_init 37 = .ok (.iconst 0, 1) := by decide +kernel
theorem dX2_init_38 : decode cX2_init 38 = .ok (.putfield 24, 3) := by decide +kernel
theorem dX2_init_41 : decode cX2_init 41 = .ok (.aload_n 0, 1) := by decide +kernel
theorem dX2_init_42 : decode cX2_init 42 = .ok (.iconst 0, 1) := by decide +kernel
theorem dX2_init_43 : decode cX2_init 43 = .ok (.putfield 28, 3) := by decide +kernel
theorem dX2_init_46 : decode cX2_init 46 = .ok (.aload_n 0, 1) := by decide +kernel
theorem dX2_init_47 : decode cX2_init 47 = .ok (.bipush 30, 2) := by decide +kernel
theorem dX2_init_49 : decode cX2_init 49 = .ok (.newarray .int, 2) := by decide +kernel
theorem dX2_init_51 : decode cX2_init 51 = .ok (.putfield 31, 3) := by decide +kernel
theorem dX2_init_54 : decode cX2_init 54 = .ok (.aload_n 0, 1) := by decide +kernel
theorem dX2_init_55 : decode cX2_init 55 = .ok (.iconst 0, 1) := by decide +kernel
theorem dX2_init_56 : decode cX2_init 56 = .ok (.putfield 34, 3) := by decide +kernel
theorem dX2_init_59 : decode cX2_init 59 = .ok (.return_, 1) := by decide +kernel
theorem dX2_clear_0 : decode cX2_clear 0 = .ok (.aload_n 0, 1) := by decide +kernel
theorem dX2_clear_1 : decode cX2_clear 1 = .ok (.iconst 0, 1) := by decide +kernel
theorem dX2_clear_2 : decode cX2_clear 2 = .ok (.putfield 24, 3) := by decide +kernel
theorem dX2_clear_5 : decode cX2_clear 5 = .ok (.aload_n 0, 1) := by decide +kernel
theorem dX2_clear_6 : decode cX2_clear 6 = .ok (.iconst 0, 1) := by decide +kernel
theorem dX2_clear_7 : decode cX2_clear 7 = .ok (.putfield 28, 3) := by decide +kernel
theorem dX2_clear_10 : decode cX2_clear 10 = .ok (.aload_n 0, 1) := by decide +kernel
theorem dX2_clear_11 : decode cX2_clear 11 = .ok (.iconst 0, 1) := by decide +kernel
theorem dX2_clear_12 : decode cX2_clear 12 = .ok (.putfield 34, 3) := by decide +kernel
theorem dX2_clear_15 : decode cX2_clear 15 = .ok (.return_, 1) := by decide +kernel
theorem dX2_openWhen_0 : decode cX2_openWhen 0 = .ok (.aload_n 0, 1) := by decide +kernel
theorem dX2_openWhen_1 : decode cX2_openWhen 1 = .ok (.getfield 34, 3) := by decide +kernel
theorem dX2_openWhen_4 : decode cX2_openWhen 4 = .ok (.bipush 30, 2) := by decide +kernel
theorem dX2_openWhen_6 : decode cX2_openWhen 6 = .ok (.if_icmp .ge 32, 3) := by decide +kernel
theorem dX2_openWhen_9 : decode cX2_openWhen 9 = .ok (.aload_n 0, 1) := by decide +kernel
theorem dX2_openWhen_10 : decode cX2_openWhen 10 = .ok (.getfield 31, 3) := by decide +kernel
theorem dX2_openWhen_13 : decode cX2_openWhen 13 = .ok (.aload_n 0, 1) := by decide +kernel
theorem dX2_openWhen_14 : decode cX2_openWhen 14 = .ok (.getfield 34, 3) := by decide +kernel
theorem dX2_openWhen_17 : decode cX2_openWhen 17 = .ok (.aload_n 0, 1) := by decide +kernel
theorem dX2_openWhen_18 : decode cX2_openWhen 18 = .ok (.invokevirtual 37, 3) := by decide +kernel
theorem dX2_openWhen_21 : decode cX2_openWhen 21 = .ok (.iload_n 1, 1) := by decide +kernel
theorem dX2_openWhen_22 : decode cX2_openWhen 22 = .ok (.invokestatic 41, 3) := by decide +kernel
theorem dX2_openWhen_25 : decode cX2_openWhen 25 = .ok (.invokestatic 45, 3) := by decide +kernel
theorem dX2_openWhen_28 : decode cX2_openWhen 28 = .ok (.aload_n 0, 1) := by decide +kernel
theorem dX2_openWhen_29 : decode cX2_openWhen 29 = .ok (.dup, 1) := by decide +kernel
theorem dX2_openWhen_30 : decode cX2_openWhen 30 = .ok (.getfield 34, 3) := by decide +kernel
theorem dX2_openWhen_33 : decode cX2_openWhen 33 = .ok (.iconst 1, 1) := by decide +kernel
theorem dX2_openWhen_34 : decode cX2_openWhen 34 = .ok (.iadd, 1) := by decide +kernel
theorem dX2_openWhen_35 : decode cX2_openWhen 35 = .ok (.putfield 34, 3) := by decide +kernel
theorem dX2_openWhen_38 : decode cX2_openWhen 38 = .ok (.return_, 1) := by decide +kernel
theorem dX2_closeWhen_0 : decode cX2_closeWhen 0 = .ok (.aload_n 0, 1) := by decide +kernel
theorem dX2_closeWhen_1 : decode cX2_closeWhen 1 = .ok (.getfield 34, 3) := by decide +kernel
theorem dX2_closeWhen_4 : decode cX2_closeWhen 4 = .ok (.ifCond .le 13, 3) := by decide +kernel
theorem dX2_closeWhen_7 : decode cX2_closeWhen 7 = .ok (.aload_n 0, 1) := by decide +kernel
theorem dX2_closeWhen_8 : decode cX2_closeWhen 8 = .ok (.dup, 1) := by decide +kernel
theorem dX2_closeWhen_9 : decode cX2_closeWhen 9 = .ok (.getfield 34, 3) := by decide +kernel
theorem dX2_closeWhen_12 : decode cX2_closeWhen 12 = .ok (.iconst 1, 1) := by decide +kernel
theorem dX2_closeWhen_13 : decode cX2_closeWhen 13 = .ok (.isub, 1) := by decide +kernel
theorem dX2_closeWhen_14 : decode cX2_closeWhen 14 = .ok (.putfield 34, 3) := by decide +kernel
theorem dX2_closeWhen_17 : decode cX2_closeWhen 17 = .ok (.return_, 1) := by decide +kernel
theorem dX2_need_0 : decode cX2_need 0 = .ok (.aload_n 0, 1) := by decide +kernel
theorem dX2_need_1 : decode cX2_need 1 = .ok (.getfield 34, 3) := by decide +kernel
theorem dX2_need_4 : decode cX2_need 4 = .ok (.ifCond .ne 7, 3) := by decide +kernel
theorem dX2_need_7 : decode cX2_need 7 = .ok (.iconst (-1), 1) := by decide +kernel
theorem dX2_need_8 : decode cX2_need 8 = .ok (.goto 16, 3) := by decide +kernel
theorem dX2_need_11 : decode cX2_need 11 = .ok (.aload_n 0, 1) := by decide +kernel
theorem dX2_need_12 : decode cX2_need 12 = .ok (.getfield 31, 3) := by decide +kernel
theorem dX2_need_15 : decode cX2_need 15 = .ok (.aload_n 0, 1) := by decide +kernel
theorem dX2_need_16 : decode cX2_need 16 = .ok (.getfield 34, 3) := by decide +kernel
theorem dX2_need_19 : decode cX2_need 19 = .ok (.iconst 1, 1) := by decide +kernel
theorem dX2_need_20 : decode cX2_need 20 = .ok (.isub, 1) := by decide +kernel
theorem dX2_need_21 : decode cX2_need 21 = .ok (.invokestatic 49, 3) := by decide +kernel
theorem dX2_need_24 : decode cX2_need 24 = .ok (.ireturn, 1) := by decide +kernel
theorem dX2_together_0 : decode cX2_together 0 = .ok (.iload_n 0, 1) := by decide +kernel
theorem dX2_together_1 : decode cX2_together 1 = .ok (.iconst (-1), 1) := by decide +kernel
theorem dX2_together_2 : decode cX2_together 2 = .ok (.if_icmp .eq 8, 3) := by decide +kernel
theorem dX2_together_5 : decode cX2_together 5 = .ok (.iload_n 0, 1) := by decide +kernel
theorem dX2_together_6 : decode cX2_together 6 = .ok (.iload_n 1, 1) := by decide +kernel
theorem dX2_together_7 : decode cX2_together 7 = .ok (.if_icmp .ne 5, 3) := by decide +kernel
theorem dX2_together_10 : decode cX2_together 10 = .ok (.iload_n 1, 1) := by decide +kernel
theorem dX2_together_11 : decode cX2_together 11 = .ok (.ireturn, 1) := by decide +kernel
theorem dX2_together_12 : decode cX2_together 12 = .ok (.iload_n 1, 1) := by decide +kernel
theorem dX2_together_13 : decode cX2_together 13 = .ok (.iconst (-1), 1) := by decide +kernel
theorem dX2_together_14 : decode cX2_together 14 = .ok (.if_icmp .ne 7, 3) := by decide +kernel
theorem dX2_together_17 : decode cX2_together 17 = .ok (.iload_n 0, 1) := by decide +kernel
theorem dX2_together_18 : decode cX2_together 18 = .ok (.goto 5, 3) := by decide +kernel
theorem dX2_together_21 : decode cX2_together 21 = .ok (.bipush (-2), 2) := by decide +kernel
theorem dX2_together_23 : decode cX2_together 23 = .ok (.ireturn, 1) := by decide +kernel
theorem dX2_add_0 : decode cX2_add 0 = .ok (.iload_n 1, 1) := by decide +kernel
theorem dX2_add_1 : decode cX2_add 1 = .ok (.bipush (-2), 2) := by decide +kernel
theorem dX2_add_3 : decode cX2_add 3 = .ok (.if_icmp .eq 12, 3) := by decide +kernel
theorem dX2_add_6 : decode cX2_add 6 = .ok (.aload_n 0, 1) := by decide +kernel
theorem dX2_add_7 : decode cX2_add 7 = .ok (.getfield 24, 3) := by decide +kernel
theorem dX2_add_10 : decode cX2_add 10 = .ok (.bipush 100, 2) := by decide +kernel
theorem dX2_add_12 : decode cX2_add 12 = .ok (.if_icmp .lt 4, 3) := by decide +kernel
theorem dX2_add_15 : decode cX2_add 15 = .ok (.return_, 1) := by decide +kernel
theorem dX2_add_16 : decode cX2_add 16 = .ok (.aload_n 0, 1) := by decide +kernel
theorem dX2_add_17 : decode cX2_add 17 = .ok (.getfield 9, 3) := by decide +kernel
theorem dX2_add_20 : decode cX2_add 20 = .ok (.aload_n 0, 1) := by decide +kernel
theorem dX2_add_21 : decode cX2_add 21 = .ok (.getfield 24, 3) := by decide +kernel
theorem dX2_add_24 : decode cX2_add 24 = .ok (.iload_n 1, 1) := by decide +kernel
theorem dX2_add_25 : decode cX2_add 25 = .ok (.invokestatic 45, 3) := by decide +kernel
theorem dX2_add_28 : decode cX2_add 28 = .ok (.aload_n 0, 1) := by decide +kernel
theorem dX2_add_29 : decode cX2_add 29 = .ok (.getfield 15, 3) := by decide +kernel
theorem dX2_add_32 : decode cX2_add 32 = .ok (.aload_n 0, 1) := by decide +kernel
theorem dX2_add_33 : decode cX2_add 33 = .ok (.getfield 24, 3) := by decide +kernel
theorem dX2_add_36 : decode cX2_add 36 = .ok (.iload_n 2, 1) := by decide +kernel
theorem dX2_add_37 : decode cX2_add 37 = .ok (.invokestatic 45, 3) := by decide +kernel
theorem dX2_add_40 : decode cX2_add 40 = .ok (.aload_n 0, 1) := by decide +kernel
theorem dX2_add_41 : decode cX2_add 41 = .ok (.getfield 18, 3) := by decide +kernel
theorem dX2_add_44 : decode cX2_add 44 = .ok (.aload_n 0, 1) := by decide +kernel
theorem dX2_add_45 : decode cX2_add 45 = .ok (.getfield 24, 3) := by decide +kernel
theorem dX2_add_48 : decode cX2_add 48 = .ok (.iload_n 3, 1) := by decide +kernel
theorem dX2_add_49 : decode cX2_add 49 = .ok (.invokestatic 45, 3) := by decide +kernel
theorem dX2_add_52 : decode cX2_add 52 = .ok (.aload_n 0, 1) := by decide +kernel
theorem dX2_add_53 : decode cX2_add 53 = .ok (.getfield 21, 3) := by decide +kernel
theorem dX2_add_56 : decode cX2_add 56 = .ok (.aload_n 0, 1) := by decide +kernel
theorem dX2_add_57 : decode cX2_add 57 = .ok (.getfield 24, 3) := by decide +kernel
theorem dX2_add_60 : decode cX2_add 60 = .ok (.iload 4, 2) := by decide +kernel
theorem dX2_add_62 : decode cX2_add 62 = .ok (.invokestatic 45, 3) := by decide +kernel
theorem dX2_add_65 : decode cX2_add 65 = .ok (.aload_n 0, 1) := by decide +kernel
theorem dX2_add_66 : decode cX2_add 66 = .ok (.dup, 1) := by decide +kernel
theorem dX2_add_67 : decode cX2_add 67 = .ok (.getfield 24, 3) := by decide +kernel
theorem dX2_add_70 : decode cX2_add 70 = .ok (.iconst 1, 1) := by decide +kernel
theorem dX2_add_71 : decode cX2_add 71 = .ok (.iadd, 1) := by decide +kernel
theorem dX2_add_72 : decode cX2_add 72 = .ok (.putfield 24, 3) := by decide +kernel
theorem dX2_add_75 : decode cX2_add 75 = .ok (.iload_n 1, 1) := by decide +kernel
theorem dX2_add_76 : decode cX2_add 76 = .ok (.iconst (-1), 1) := by decide +kernel
theorem dX2_add_77 : decode cX2_add 77 = .ok (.if_icmp .ne 20, 3) := by decide +kernel
theorem dX2_add_80 : decode cX2_add 80 = .ok (.iload_n 2, 1) := by decide +kernel
theorem dX2_add_81 : decode cX2_add 81 = .ok (.iconst 1, 1) := by decide +kernel
theorem dX2_add_82 : decode cX2_add 82 = .ok (.if_icmp .ne 15, 3) := by decide +kernel
theorem dX2_add_85 : decode cX2_add 85 = .ok (.aload_n 0, 1) := by decide +kernel
theorem dX2_add_86 : decode cX2_add 86 = .ok (.dup, 1) := by decide +kernel
theorem dX2_add_87 : decode cX2_add 87 = .ok (.getfield 28, 3) := by decide +kernel
theorem dX2_add_90 : decode cX2_add 90 = .ok (.iconst 1, 1) := by decide +kernel
theorem dX2_add_91 : decode cX2_add 91 = .ok (.iload_n 3, 1) := by decide +kernel
theorem dX2_add_92 : decode cX2_add 92 = .ok (.ishl, 1) := by decide +kernel
theorem dX2_add_93 : decode cX2_add 93 = .ok (.ior, 1) := by decide +kernel
theorem dX2_add_94 : decode cX2_add 94 = .ok (.putfield 28, 3) := by decide +kernel
theorem dX2_add_97 : decode cX2_add 97 = .ok (.return_, 1) := by decide +kernel
theorem dX2_takeCalled_0 : decode cX2_takeCalled 0 = .ok (.iconst 0, 1) := by decide +kernel
theorem dX2_takeCalled_1 : decode cX2_takeCalled 1 = .ok (.istore_n 3, 1) := by decide +kernel
theorem dX2_takeCalled_2 : decode cX2_takeCalled 2 = .ok (.iload_n 3, 1) := by decide +kernel
theorem dX2_takeCalled_3 : decode cX2_takeCalled 3 = .ok (.aload_n 1, 1) := by decide +kernel
theorem dX2_takeCalled_4 : decode cX2_takeCalled 4 = .ok (.getfield 24, 3) := by decide +kernel
theorem dX2_takeCalled_7 : decode cX2_takeCalled 7 = .ok (.if_icmp .ge 42, 3) := by decide +kernel
theorem dX2_takeCalled_10 : decode cX2_takeCalled 10 = .ok (.aload_n 1, 1) := by decide +kernel
theorem dX2_takeCalled_11 : decode cX2_takeCalled 11 = .ok (.iload_n 3, 1) := by decide +kernel
theorem dX2_takeCalled_12 : decode cX2_takeCalled 12 = .ok (.iload_n 2, 1) := by decide +kernel
theorem dX2_takeCalled_13 : decode cX2_takeCalled 13 = .ok (.invokevirtual 53, 3) := by decide +kernel
theorem dX2_takeCalled_16 : decode cX2_takeCalled 16 = .ok (.ifCond .eq 27, 3) := by decide +kernel
theorem dX2_takeCalled_19 : decode cX2_takeCalled 19 = .ok (.aload_n 0, 1) := by decide +kernel
theorem dX2_takeCalled_20 : decode cX2_takeCalled 20 = .ok (.aload_n 0, 1) := by decide +kernel
theorem dX2_takeCalled_21 : decode cX2_takeCalled 21 = .ok (.invokevirtual 37, 3) := by decide +kernel
theorem dX2_takeCalled_24 : decode cX2_takeCalled 24 = .ok (.aload_n 1, 1) := by decide +kernel
theorem dX2_takeCalled_25 : decode cX2_takeCalled 25 = .ok (.iload_n 3, 1) := by decide +kernel
theorem dX2_takeCalled_26 : decode cX2_takeCalled 26 = .ok (.invokevirtual 57, 3) := by decide +kernel
theorem dX2_takeCalled_29 : decode cX2_takeCalled 29 = .ok (.aload_n 1, 1) := by decide +kernel
theorem dX2_takeCalled_30 : decode cX2_takeCalled 30 = .ok (.iload_n 3, 1) := by decide +kernel
theorem dX2_takeCalled_31 : decode cX2_takeCalled 31 = .ok (.iload_n 2, 1) := by decide +kernel
theorem dX2_takeCalled_32 : decode cX2_takeCalled 32 = .ok (.invokevirtual 61, 3) := by decide +kernel
theorem dX2_takeCalled_35 : decode cX2_takeCalled 35 = .ok (.aload_n 1, 1) := by decide +kernel
theorem dX2_takeCalled_36 : decode cX2_takeCalled 36 = .ok (.iload_n 3, 1) := by decide +kernel
theorem dX2_takeCalled_37 : decode cX2_takeCalled 37 = .ok (.invokevirtual 64, 3) := by decide +kernel
theorem dX2_takeCalled_40 : decode cX2_takeCalled 40 = .ok (.invokevirtual 67, 3) := by decide +kernel
theorem dX2_takeCalled_43 : decode cX2_takeCalled 43 = .ok (.iinc 3 1, 3) := by decide +kernel
theorem dX2_takeCalled_46 : decode cX2_takeCalled 46 = .ok (.goto (-44), 3) := by decide +kernel
theorem dX2_takeCalled_49 : decode cX2_takeCalled 49 = .ok (.return_, 1) := by decide +kernel
theorem dX2_takeCalledOn_0 : decode cX2_takeCalledOn 0 = .ok (.iconst 0, 1) := by decide +kernel
theorem dX2_takeCalledOn_1 : decode cX2_takeCalledOn 1 = .ok (.istore_n 2, 1) := by decide +kernel
theorem dX2_takeCalledOn_2 : decode cX2_takeCalledOn 2 = .ok (.iload_n 2, 1) := by decide +kernel
theorem dX2_takeCalledOn_3 : decode cX2_takeCalledOn 3 = .ok (.aload_n 1, 1) := by decide +kernel
theorem dX2_takeCalledOn_4 : decode cX2_takeCalledOn 4 = .ok (.getfield 24, 3) := by decide +kernel
theorem dX2_takeCalledOn_7 : decode cX2_takeCalledOn 7 = .ok (.if_icmp .ge 51, 3) := by decide +kernel
theorem dX2_takeCalledOn_10 : decode cX2_takeCalledOn 10 = .ok (.aload_n 0, 1) := by decide +kernel
theorem dX2_takeCalledOn_11 : decode cX2_takeCalledOn 11 = .ok (.invokevirtual 37, 3) := by decide +kernel
theorem dX2_takeCalledOn_14 : decode cX2_takeCalledOn 14 = .ok (.aload_n 1, 1) := by decide +kernel
theorem dX2_takeCalledOn_15 : decode cX2_takeCalledOn 15 = .ok (.getfield 9, 3) := by decide +kernel
theorem dX2_takeCalledOn_18 : decode cX2_takeCalledOn 18 = .ok (.iload_n 2, 1) := by decide +kernel
theorem dX2_takeCalledOn_19 : decode cX2_takeCalledOn 19 = .ok (.invokestatic 49, 3) := by decide +kernel
theorem dX2_takeCalledOn_22 : decode cX2_takeCalledOn 22 = .ok (.invokestatic 41, 3) := by decide +kernel
theorem dX2_takeCalledOn_25 : decode cX2_takeCalledOn 25 = .ok (.istore_n 3, 1) := by decide +kernel
theorem dX2_takeCalledOn_26 : decode cX2_takeCalledOn 26 = .ok (.aload_n 0, 1) := by decide +kernel
theorem dX2_takeCalledOn_27 : decode cX2_takeCalledOn 27 = .ok (.iload_n 3, 1) := by decide +kernel
theorem dX2_takeCalledOn_28 : decode cX2_takeCalledOn 28 = .ok (.aload_n 1, 1) := by decide +kernel
theorem dX2_takeCalledOn_29 : decode cX2_takeCalledOn 29 = .ok (.getfield 15, 3) := by decide +kernel
theorem dX2_takeCalledOn_32 : decode cX2_takeCalledOn 32 = .ok (.iload_n 2, 1) := by decide +kernel
theorem dX2_takeCalledOn_33 : decode cX2_takeCalledOn 33 = .ok (.invokestatic 49, 3) := by decide +kernel
theorem dX2_takeCalledOn_36 : decode cX2_takeCalledOn 36 = .ok (.aload_n 1, 1) := by decide +kernel
theorem dX2_takeCalledOn_37 : decode cX2_takeCalledOn 37 = .ok (.getfield 18, 3) := by decide +kernel
theorem dX2_takeCalledOn_40 : decode cX2_takeCalledOn 40 = .ok (.iload_n 2, 1) := by decide +kernel
theorem dX2_takeCalledOn_41 : decode cX2_takeCalledOn 41 = .ok (.invokestatic 49, 3) := by decide +kernel
theorem dX2_takeCalledOn_44 : decode cX2_takeCalledOn 44 = .ok (.aload_n 1, 1) := by decide +kernel
theorem dX2_takeCalledOn_45 : decode cX2_takeCalledOn 45 = .ok (.iload_n 2, 1) := by decide +kernel
theorem dX2_takeCalledOn_46 : decode cX2_takeCalledOn 46 = .ok (.invokevirtual 64, 3) := by decide +kernel
theorem dX2_takeCalledOn_49 : decode cX2_takeCalledOn 49 = .ok (.invokevirtual 67, 3) := by decide +kernel
theorem dX2_takeCalledOn_52 : decode cX2_takeCalledOn 52 = .ok (.iinc 2 1, 3) := by decide +kernel
theorem dX2_takeCalledOn_55 : decode cX2_takeCalledOn 55 = .ok (.goto (-53), 3) := by decide +kernel
theorem dX2_takeCalledOn_58 : decode cX2_takeCalledOn 58 = .ok (.return_, 1) := by decide +kernel
theorem dX2_shows_0 : decode cX2_shows 0 = .ok (.aload_n 0, 1) := by decide +kernel
theorem dX2_shows_1 : decode cX2_shows 1 = .ok (.getfield 9, 3) := by decide +kernel
theorem dX2_shows_4 : decode cX2_shows 4 = .ok (.iload_n 1, 1) := by decide +kernel
theorem dX2_shows_5 : decode cX2_shows 5 = .ok (.invokestatic 49, 3) := by decide +kernel
theorem dX2_shows_8 : decode cX2_shows 8 = .ok (.istore_n 3, 1) := by decide +kernel
theorem dX2_shows_9 : decode cX2_shows 9 = .ok (.iload_n 3, 1) := by decide +kernel
theorem dX2_shows_10 : decode cX2_shows 10 = .ok (.iconst (-1), 1) := by decide +kernel
theorem dX2_shows_11 : decode cX2_shows 11 = .ok (.if_icmp .eq 8, 3) := by decide +kernel
theorem dX2_shows_14 : decode cX2_shows 14 = .ok (.iload_n 3, 1) := by decide +kernel
theorem dX2_shows_15 : decode cX2_shows 15 = .ok (.iload_n 2, 1) := by decide +kernel
theorem dX2_shows_16 : decode cX2_shows 16 = .ok (.if_icmp .ne 24, 3) := by decide +kernel
theorem dX2_shows_19 : decode cX2_shows 19 = .ok (.iload_n 2, 1) := by decide +kernel
theorem dX2_shows_20 : decode cX2_shows 20 = .ok (.iconst (-1), 1) := by decide +kernel
theorem dX2_shows_21 : decode cX2_shows 21 = .ok (.if_icmp .ne 15, 3) := by decide +kernel
theorem dX2_shows_24 : decode cX2_shows 24 = .ok (.aload_n 0, 1) := by decide +kernel
theorem dX2_shows_25 : decode cX2_shows 25 = .ok (.getfield 15, 3) := by decide +kernel
theorem dX2_shows_28 : decode cX2_shows 28 = .ok (.iload_n 1, 1) := by decide +kernel
theorem dX2_shows_29 : decode cX2_shows 29 = .ok (.invokestatic 49, 3) := by decide +kernel
theorem dX2_shows_32 : decode cX2_shows 32 = .ok (.iconst 3, 1) := by decide +kernel
theorem dX2_shows_33 : decode cX2_shows 33 = .ok (.if_icmp .eq 7, 3) := by decide +kernel
theorem dX2_shows_36 : decode cX2_shows 36 = .ok (.iconst 1, 1) := by decide +kernel
theorem dX2_shows_37 : decode cX2_shows 37 = .ok (.goto 4, 3) := by decide +kernel
theorem dX2_shows_40 : decode cX2_shows 40 = .ok (.iconst 0, 1) := by decide +kernel
theorem dX2_shows_41 : decode cX2_shows 41 = .ok (.ireturn, 1) := by decide +kernel
theorem dX2_showsSort_0 : decode cX2_showsSort 0 = .ok (.aload_n 0, 1) := by decide +kernel
theorem dX2_showsSort_1 : decode cX2_showsSort 1 = .ok (.iload_n 1, 1) := by decide +kernel
theorem dX2_showsSort_2 : decode cX2_showsSort 2 = .ok (.iconst (-1), 1) := by decide +kernel
theorem dX2_showsSort_3 : decode cX2_showsSort 3 = .ok (.invokevirtual 53, 3) := by decide +kernel
theorem dX2_showsSort_6 : decode cX2_showsSort 6 = .ok (.ifCond .eq 16, 3) := by decide +kernel
theorem dX2_showsSort_9 : decode cX2_showsSort 9 = .ok (.aload_n 0, 1) := by decide +kernel
theorem dX2_showsSort_10 : decode cX2_showsSort 10 = .ok (.iload_n 1, 1) := by decide +kernel
theorem dX2_showsSort_11 : decode cX2_showsSort 11 = .ok (.invokevirtual 57, 3) := by decide +kernel
theorem dX2_showsSort_14 : decode cX2_showsSort 14 = .ok (.iload_n 2, 1) := by decide +kernel
theorem dX2_showsSort_15 : decode cX2_showsSort 15 = .ok (.if_icmp .ne 7, 3) := by decide +kernel
theorem dX2_showsSort_18 : decode cX2_showsSort 18 = .ok (.iconst 1, 1) := by decide +kernel
theorem dX2_showsSort_19 : decode cX2_showsSort 19 = .ok (.goto 4, 3) := by decide +kernel
theorem dX2_showsSort_22 : decode cX2_showsSort 22 = .ok (.iconst 0, 1) := by decide +kernel
theorem dX2_showsSort_23 : decode cX2_showsSort 23 = .ok (.ireturn, 1) := by decide +kernel
theorem dX2_hasAnchor_0 : decode cX2_hasAnchor 0 = .ok (.aload_n 0, 1) := by decide +kernel
theorem dX2_hasAnchor_1 : decode cX2_hasAnchor 1 = .ok (.getfield 28, 3) := by decide +kernel
theorem dX2_hasAnchor_4 : decode cX2_hasAnchor 4 = .ok (.iload_n 1, 1) := by decide +kernel
theorem dX2_hasAnchor_5 : decode cX2_hasAnchor 5 = .ok (.invokestatic 71, 3) := by decide +kernel
theorem dX2_hasAnchor_8 : decode cX2_hasAnchor 8 = .ok (.ireturn, 1) := by decide +kernel
theorem dX2_count_0 : decode cX2_count 0 = .ok (.iconst 0, 1) := by decide +kernel
theorem dX2_count_1 : decode cX2_count 1 = .ok (.istore_n 2, 1) := by decide +kernel
theorem dX2_count_2 : decode cX2_count 2 = .ok (.iconst 0, 1) := by decide +kernel
theorem dX2_count_3 : decode cX2_count 3 = .ok (.istore_n 3, 1) := by decide +kernel
theorem dX2_count_4 : decode cX2_count 4 = .ok (.iload_n 3, 1) := by decide +kernel
theorem dX2_count_5 : decode cX2_count 5 = .ok (.aload_n 0, 1) := by decide +kernel
theorem dX2_count_6 : decode cX2_count 6 = .ok (.getfield 24, 3) := by decide +kernel
theorem dX2_count_9 : decode cX2_count 9 = .ok (.if_icmp .ge 21, 3) := by decide +kernel
theorem dX2_count_12 : decode cX2_count 12 = .ok (.aload_n 0, 1) := by decide +kernel
theorem dX2_count_13 : decode cX2_count 13 = .ok (.iload_n 3, 1) := by decide +kernel
theorem dX2_count_14 : decode cX2_count 14 = .ok (.iload_n 1, 1) := by decide +kernel
theorem dX2_count_15 : decode cX2_count 15 = .ok (.invokevirtual 53, 3) := by decide +kernel
theorem dX2_count_18 : decode cX2_count 18 = .ok (.ifCond .eq 6, 3) := by decide +kernel
theorem dX2_count_21 : decode cX2_count 21 = .ok (.iinc 2 1, 3) := by decide +kernel
theorem dX2_count_24 : decode cX2_count 24 = .ok (.iinc 3 1, 3) := by decide +kernel
theorem dX2_count_27 : decode cX2_count 27 = .ok (.goto (-23), 3) := by decide +kernel
theorem dX2_count_30 : decode cX2_count 30 = .ok (.iload_n 2, 1) := by decide +kernel
theorem dX2_count_31 : decode cX2_count 31 = .ok (.ireturn, 1) := by decide +kernel
theorem dX2_find_0 : decode cX2_find 0 = .ok (.iconst 0, 1) := by decide +kernel
theorem dX2_find_1 : decode cX2_find 1 = .ok (.istore_n 3, 1) := by decide +kernel
theorem dX2_find_2 : decode cX2_find 2 = .ok (.iconst 0, 1) := by decide +kernel
theorem dX2_find_3 : decode cX2_find 3 = .ok (.istore 4, 2) := by decide +kernel
theorem dX2_find_5 : decode cX2_find 5 = .ok (.iload 4, 2) := by decide +kernel
theorem dX2_find_7 : decode cX2_find 7 = .ok (.aload_n 0, 1) := by decide +kernel
theorem dX2_find_8 : decode cX2_find 8 = .ok (.getfield 24, 3) := by decide +kernel
theorem dX2_find_11 : decode cX2_find 11 = .ok (.if_icmp .ge 30, 3) := by decide +kernel
theorem dX2_find_14 : decode cX2_find 14 = .ok (.aload_n 0, 1) := by decide +kernel
theorem dX2_find_15 : decode cX2_find 15 = .ok (.iload 4, 2) := by decide +kernel
theorem dX2_find_17 : decode cX2_find 17 = .ok (.iload_n 1, 1) := by decide +kernel
theorem dX2_find_18 : decode cX2_find 18 = .ok (.invokevirtual 53, 3) := by decide +kernel
theorem dX2_find_21 : decode cX2_find 21 = .ok (.ifCond .eq 14, 3) := by decide +kernel
theorem dX2_find_24 : decode cX2_find 24 = .ok (.iload_n 3, 1) := by decide +kernel
theorem dX2_find_25 : decode cX2_find 25 = .ok (.iload_n 2, 1) := by decide +kernel
theorem dX2_find_26 : decode cX2_find 26 = .ok (.if_icmp .ne 6, 3) := by decide +kernel
theorem dX2_find_29 : decode cX2_find 29 = .ok (.iload 4, 2) := by decide +kernel
theorem dX2_find_31 : decode cX2_find 31 = .ok (.ireturn, 1) := by decide +kernel
theorem dX2_find_32 : decode cX2_find 32 = .ok (.iinc 3 1, 3) := by decide +kernel
theorem dX2_find_35 : decode cX2_find 35 = .ok (.iinc 4 1, 3) := by decide +kernel
theorem dX2_find_38 : decode cX2_find 38 = .ok (.goto (-33), 3) := by decide +kernel
theorem dX2_find_41 : decode cX2_find 41 = .ok (.iconst (-1), 1) := by decide +kernel
theorem dX2_find_42 : decode cX2_find 42 = .ok (.ireturn, 1) := by decide +kernel
theorem dX2_itemSort_0 : decode cX2_itemSort 0 = .ok (.aload_n 0, 1) := by decide +kernel
theorem dX2_itemSort_1 : decode cX2_itemSort 1 = .ok (.getfield 15, 3) := by decide +kernel
theorem dX2_itemSort_4 : decode cX2_itemSort 4 = .ok (.iload_n 1, 1) := by decide +kernel
theorem dX2_itemSort_5 : decode cX2_itemSort 5 = .ok (.invokestatic 49, 3) := by decide +kernel
theorem dX2_itemSort_8 : decode cX2_itemSort 8 = .ok (.istore_n 2, 1) := by decide +kernel
theorem dX2_itemSort_9 : decode cX2_itemSort 9 = .ok (.iload_n 2, 1) := by decide +kernel
theorem dX2_itemSort_10 : decode cX2_itemSort 10 = .ok (.iconst 3, 1) := by decide +kernel
theorem dX2_itemSort_11 : decode cX2_itemSort 11 = .ok (.if_icmp .ne 7, 3) := by decide +kernel
theorem dX2_itemSort_14 : decode cX2_itemSort 14 = .ok (.iconst 0, 1) := by decide +kernel
theorem dX2_itemSort_15 : decode cX2_itemSort 15 = .ok (.goto 4, 3) := by decide +kernel
theorem dX2_itemSort_18 : decode cX2_itemSort 18 = .ok (.iload_n 2, 1) := by decide +kernel
theorem dX2_itemSort_19 : decode cX2_itemSort 19 = .ok (.ireturn, 1) := by decide +kernel
theorem dX2_itemWith_0 : decode cX2_itemWith 0 = .ok (.aload_n 0, 1) := by decide +kernel
theorem dX2_itemWith_1 : decode cX2_itemWith 1 = .ok (.getfield 15, 3) := by decide +kernel
theorem dX2_itemWith_4 : decode cX2_itemWith 4 = .ok (.iload_n 1, 1) := by decide +kernel
theorem dX2_itemWith_5 : decode cX2_itemWith 5 = .ok (.invokestatic 49, 3) := by decide +kernel
theorem dX2_itemWith_8 : decode cX2_itemWith 8 = .ok (.iconst 3, 1) := by decide +kernel
theorem dX2_itemWith_9 : decode cX2_itemWith 9 = .ok (.if_icmp .ne 7, 3) := by decide +kernel
theorem dX2_itemWith_12 : decode cX2_itemWith 12 = .ok (.iload_n 2, 1) := by decide +kernel
theorem dX2_itemWith_13 : decode cX2_itemWith 13 = .ok (.goto 11, 3) := by decide +kernel
theorem dX2_itemWith_16 : decode cX2_itemWith 16 = .ok (.aload_n 0, 1) := by decide +kernel
theorem dX2_itemWith_17 : decode cX2_itemWith 17 = .ok (.getfield 18, 3) := by decide +kernel
theorem dX2_itemWith_20 : decode cX2_itemWith 20 = .ok (.iload_n 1, 1) := by decide +kernel
theorem dX2_itemWith_21 : decode cX2_itemWith 21 = .ok (.invokestatic 49, 3) := by decide +kernel
theorem dX2_itemWith_24 : decode cX2_itemWith 24 = .ok (.ireturn, 1) := by decide +kernel
theorem dX2_sourceOf_0 : decode cX2_sourceOf 0 = .ok (.aload_n 0, 1) := by decide +kernel
theorem dX2_sourceOf_1 : decode cX2_sourceOf 1 = .ok (.getfield 21, 3) := by decide +kernel
theorem dX2_sourceOf_4 : decode cX2_sourceOf 4 = .ok (.iload_n 1, 1) := by decide +kernel
theorem dX2_sourceOf_5 : decode cX2_sourceOf 5 = .ok (.invokestatic 49, 3) := by decide +kernel
theorem dX2_sourceOf_8 : decode cX2_sourceOf 8 = .ok (.ireturn, 1) := by decide +kernel
theorem dX3_init_0 : decode cX3_init 0 = .ok (.aload_n 0, 1) := by decide +kernel
theorem dX3_init_1 : decode cX3_init 1 = .ok (.invokespecial 3, 3) := by decide +kernel
theorem dX3_init_4 : decode cX3_init 4 = .ok (.aload_n 0, 1) := by decide +kernel
theorem dX3_init_5 : decode cX3_init 5 = .ok (.bipush 30, 2) := by decide +kernel
theorem dX3_init_7 : decode cX3_init 7 = .ok (.newarray .int, 2) := by decide +kernel
theorem dX3_init_9 : decode cX3_init 9 = .ok (.putfield 9, 3) := by decide +kernel
theorem dX3_init_12 : decode cX3_init 12 = .ok (.aload_n 0, 1) := by decide +kernel
theorem dX3_init_13 : decode cX3_init 13 = .ok (.bipush 30, 2) := by decide +kernel
theorem dX3_init_15 : decode cX3_init 15 = .ok (.newarray .int, 2) := by decide +kernel
theorem dX3_init_17 : decode cX3_init 17 = .ok (.putfield 15, 3) := by decide +kernel
theorem dX3_init_20 : decode cX3_init 20 = .ok (.aload_n 0, 1) := by decide +kernel
theorem dX3_init_21 : decode cX3_init 21 = .ok (.bipush 30, 2) := by decide +kernel
theorem dX3_init_23 : decode cX3_init 23 = .ok (.newarray .int, 2) := by decide +kernel
theorem dX3_init_25 : decode cX3_init 25 = .ok (.putfield 18, 3) := by decide +kernel
theorem dX3_init_28 : decode cX3_init 28 = .ok (.aload_n 0, 1) := by decide +kernel
theorem dX3_init_29 : decode cX3_init 29 = .ok (.iconst 0, 1) := by decide +kernel
theorem dX3_init_30 : decode cX3_init 30 = .ok (.putfield 21, 3) := by decide +kernel
theorem dX3_init_33 : decode cX3_init 33 = .ok (.aload_n 0, 1) := by decide +kernel
theorem dX3_init_34 : decode cX3_init 34 = .ok (.iconst 0, 1) := by decide +kernel
theorem dX3_init_35 : decode cX3_init 35 = .ok (.putfield 25, 3) := by decide +kernel
theorem dX3_init_38 : decode cX3_init 38 = .ok (.return_, 1) := by decide +kernel
theorem dX3_add_0 : decode cX3_add 0 = .ok (.aload_n 0, 1) := by decide +kernel
theorem dX3_add_1 : decode cX3_add 1 = .ok (.getfield 21, 3) := by decide +kernel
theorem dX3_add_4 : decode cX3_add 4 = .ok (.bipush 30, 2) := by decide +kernel
theorem dX3_add_6 : decode cX3_add 6 = .ok (.if_icmp .lt 4, 3) := by decide +kernel
theorem dX3_add_9 : decode cX3_add 9 = .ok (.return_, 1) := by decide +kernel
theorem dX3_add_10 : decode cX3_add 10 = .ok (.aload_n 0, 1) := by decide +kernel
theorem dX3_add_11 : decode cX3_add 11 = .ok (.getfield 9, 3) := by decide +kernel
theorem dX3_add_14 : decode cX3_add 14 = .ok (.aload_n 0, 1) := by decide +kernel
theorem dX3_add_15 : decode cX3_add 15 = .ok (.getfield 21, 3) := by decide +kernel
theorem dX3_add_18 : decode cX3_add 18 = .ok (.iload_n 1, 1) := by decide +kernel
theorem dX3_add_19 : decode cX3_add 19 = .ok (.invokestatic 28, 3) := by decide +kernel
theorem dX3_add_22 : decode cX3_add 22 = .ok (.aload_n 0, 1) := by decide +kernel
theorem dX3_add_23 : decode cX3_add 23 = .ok (.getfield 15, 3) := by decide +kernel
theorem dX3_add_26 : decode cX3_add 26 = .ok (.aload_n 0, 1) := by decide +kernel
theorem dX3_add_27 : decode cX3_add 27 = .ok (.getfield 21, 3) := by decide +kernel
theorem dX3_add_30 : decode cX3_add 30 = .ok (.iload_n 2, 1) := by decide +kernel
theorem dX3_add_31 : decode cX3_add 31 = .ok (.invokestatic 28, 3) := by decide +kernel
theorem dX3_add_34 : decode cX3_add 34 = .ok (.aload_n 0, 1) := by decide +kernel
theorem dX3_add_35 : decode cX3_add 35 = .ok (.getfield 18, 3) := by decide +kernel
theorem dX3_add_38 : decode cX3_add 38 = .ok (.aload_n 0, 1) := by decide +kernel
theorem dX3_add_39 : decode cX3_add 39 = .ok (.getfield 21, 3) := by decide +kernel
theorem dX3_add_42 : decode cX3_add 42 = .ok (.iload_n 3, 1) := by decide +kernel
theorem dX3_add_43 : decode cX3_add 43 = .ok (.invokestatic 28, 3) := by decide +kernel
theorem dX3_add_46 : decode cX3_add 46 = .ok (.aload_n 0, 1) := by decide +kernel
theorem dX3_add_47 : decode cX3_add 47 = .ok (.dup, 1) := by decide +kernel
theorem dX3_add_48 : decode cX3_add 48 = .ok (.getfield 21, 3) := by decide +kernel
theorem dX3_add_51 : decode cX3_add 51 = .ok (.iconst 1, 1) := by decide +kernel
theorem dX3_add_52 : decode cX3_add 52 = .ok (.iadd, 1) := by decide +kernel
theorem dX3_add_53 : decode cX3_add 53 = .ok (.putfield 21, 3) := by decide +kernel
theorem dX3_add_56 : decode cX3_add 56 = .ok (.iload_n 1, 1) := by decide +kernel
theorem dX3_add_57 : decode cX3_add 57 = .ok (.bipush 6, 2) := by decide +kernel
theorem dX3_add_59 : decode cX3_add 59 = .ok (.if_icmp .ne 16, 3) := by decide +kernel
theorem dX3_add_62 : decode cX3_add 62 = .ok (.aload_n 0, 1) := by decide +kernel
theorem dX3_add_63 : decode cX3_add 63 = .ok (.dup, 1) := by decide +kernel
theorem dX3_add_64 : decode cX3_add 64 = .ok (.getfield 25, 3) := by decide +kernel
theorem dX3_add_67 : decode cX3_add 67 = .ok (.iconst 1, 1) := by decide +kernel
theorem dX3_add_68 : decode cX3_add 68 = .ok (.iadd, 1) := by decide +kernel
theorem dX3_add_69 : decode cX3_add 69 = .ok (.putfield 25, 3) := by decide +kernel
theorem dX3_add_72 : decode cX3_add 72 = .ok (.goto 19, 3) := by decide +kernel
theorem dX3_add_75 : decode cX3_add 75 = .ok (.iload_n 1, 1) := by decide +kernel
theorem dX3_add_76 : decode cX3_add 76 = .ok (.bipush 7, 2) := by decide +kernel
theorem dX3_add_78 : decode cX3_add 78 = .ok (.if_icmp .ne 13, 3) := by decide +kernel
theorem dX3_add_81 : decode cX3_add 81 = .ok (.aload_n 0, 1) := by decide +kernel
theorem dX3_add_82 : decode cX3_add 82 = .ok (.dup, 1) := by decide +kernel
theorem dX3_add_83 : decode cX3_add 83 = .ok (.getfield 25, 3) := by decide +kernel
theorem dX3_add_86 : decode cX3_add 86 = .ok (.iconst 1, 1) := by decide +kernel
theorem dX3_add_87 : decode cX3_add 87 = .ok (.isub, 1) := by decide +kernel
theorem dX3_add_88 : decode cX3_add 88 = .ok (.putfield 25, 3) := by decide +kernel
theorem dX3_add_91 : decode cX3_add 91 = .ok (.return_, 1) := by decide +kernel
theorem dX3_clear_0 : decode cX3_clear 0 = .ok (.aload_n 0, 1) := by decide +kernel
theorem dX3_clear_1 : decode cX3_clear 1 = .ok (.iconst 0, 1) := by decide +kernel
theorem dX3_clear_2 : decode cX3_clear 2 = .ok (.putfield 21, 3) := by decide +kernel
theorem dX3_clear_5 : decode cX3_clear 5 = .ok (.aload_n 0, 1) := by decide +kernel
theorem dX3_clear_6 : decode cX3_clear 6 = .ok (.iconst 0, 1) := by decide +kernel
theorem dX3_clear_7 : decode cX3_clear 7 = .ok (.putfield 25, 3) := by decide +kernel
theorem dX3_clear_10 : decode cX3_clear 10 = .ok (.return_, 1) := by decide +kernel
theorem dX3_addAll_0 : decode cX3_addAll 0 = .ok (.iconst 0, 1) := by decide +kernel
theorem dX3_addAll_1 : decode cX3_addAll 1 = .ok (.istore_n 2, 1) := by decide +kernel
theorem dX3_addAll_2 : decode cX3_addAll 2 = .ok (.iload_n 2, 1) := by decide +kernel
theorem dX3_addAll_3 : decode cX3_addAll 3 = .ok (.aload_n 1, 1) := by decide +kernel
theorem dX3_addAll_4 : decode cX3_addAll 4 = .ok (.getfield 21, 3) := by decide +kernel
theorem dX3_addAll_7 : decode cX3_addAll 7 = .ok (.if_icmp .ge 28, 3) := by decide +kernel
theorem dX3_addAll_10 : decode cX3_addAll 10 = .ok (.aload_n 0, 1) := by decide +kernel
theorem dX3_addAll_11 : decode cX3_addAll 11 = .ok (.aload_n 1, 1) := by decide +kernel
theorem dX3_addAll_12 : decode cX3_addAll 12 = .ok (.iload_n 2, 1) := by decide +kernel
theorem dX3_addAll_13 : decode cX3_addAll 13 = .ok (.invokevirtual 32, 3) := by decide +kernel
theorem dX3_addAll_16 : decode cX3_addAll 16 = .ok (.aload_n 1, 1) := by decide +kernel
theorem dX3_addAll_17 : decode cX3_addAll 17 = .ok (.iload_n 2, 1) := by decide +kernel
theorem dX3_addAll_18 : decode cX3_addAll 18 = .ok (.invokevirtual 36, 3) := by decide +kernel
theorem dX3_addAll_21 : decode cX3_addAll 21 = .ok (.aload_n 1, 1) := by decide +kernel
theorem dX3_addAll_22 : decode cX3_addAll 22 = .ok (.iload_n 2, 1) := by decide +kernel
theorem dX3_addAll_23 : decode cX3_addAll 23 = .ok (.invokevirtual 39, 3) := by decide +kernel
theorem dX3_addAll_26 : decode cX3_addAll 26 = .ok (.invokevirtual 42, 3) := by decide +kernel
theorem dX3_addAll_29 : decode cX3_addAll 29 = .ok (.iinc 2 1, 3) := by decide +kernel
theorem dX3_addAll_32 : decode cX3_addAll 32 = .ok (.goto (-30), 3) := by decide +kernel
theorem dX3_addAll_35 : decode cX3_addAll 35 = .ok (.return_, 1) := by decide +kernel
theorem dX3_hasOpenWhen_0 : decode cX3_hasOpenWhen 0 = .ok (.aload_n 0, 1) := by decide +kernel
theorem dX3_hasOpenWhen_1 : decode cX3_hasOpenWhen 1 = .ok (.getfield 25, 3) := by decide +kernel
theorem dX3_hasOpenWhen_4 : decode cX3_hasOpenWhen 4 = .ok (.ifCond .le 7, 3) := by decide +kernel
theorem dX3_hasOpenWhen_7 : decode cX3_hasOpenWhen 7 = .ok (.iconst 1, 1) := by decide +kernel
theorem dX3_hasOpenWhen_8 : decode cX3_hasOpenWhen 8 = .ok (.goto 4, 3) := by decide +kernel
theorem dX3_hasOpenWhen_11 : decode cX3_hasOpenWhen 11 = .ok (.iconst 0, 1) := by decide +kernel
theorem dX3_hasOpenWhen_12 : decode cX3_hasOpenWhen 12 = .ok (.ireturn, 1) := by decide +kernel
theorem dX3_isRedirectAlone_0 : decode cX3_isRedirectAlone 0 = .ok (.aload_n 0, 1) := by decide +kernel
theorem dX3_isRedirectAlone_1 : decode cX3_isRedirectAlone 1 = .ok (.getfield 21, 3) := by decide +kernel
theorem dX3_isRedirectAlone_4 : decode cX3_isRedirectAlone 4 = .ok (.iconst 1, 1) := by decide +kernel
theorem dX3_isRedirectAlone_5 : decode cX3_isRedirectAlone 5 = .ok (.if_icmp .ne 17, 3) := by decide +kernel
theorem dX3_isRedirectAlone_8 : decode cX3_isRedirectAlone 8 = .ok (.aload_n 0, 1) := by decide +kernel
theorem dX3_isRedirectAlone_9 : decode cX3_isRedirectAlone 9 = .ok (.iconst 0, 1) := by decide +kernel
theorem dX3_isRedirectAlone_10 : decode cX3_isRedirectAlone 10 = .ok (.invokevirtual 32, 3) := by decide +kernel
theorem dX3_isRedirectAlone_13 : decode cX3_isRedirectAlone 13 = .ok (.bipush 8, 2) := by decide +kernel
theorem dX3_isRedirectAlone_15 : decode cX3_isRedirectAlone 15 = .ok (.if_icmp .ne 7, 3) := by decide +kernel
theorem dX3_isRedirectAlone_18 : decode cX3_isRedirectAlone 18 = .ok (.iconst 1, 1) := by decide +kernel
theorem dX3_isRedirectAlone_19 : decode cX3_isRedirectAlone 19 = .ok (.goto 4, 3) := by decide +kernel
theorem dX3_isRedirectAlone_22 : decode cX3_isRedirectAlone 22 = .ok (.iconst 0, 1) := by decide +kernel
theorem dX3_isRedirectAlone_23 : decode cX3_isRedirectAlone 23 = .ok (.ireturn, 1) := by decide +kernel
theorem dX3_sortOf_0 : decode cX3_sortOf 0 = .ok (.aload_n 0, 1) := by decide +kernel
theorem dX3_sortOf_1 : decode cX3_sortOf 1 = .ok (.getfield 9, 3) := by decide +kernel
theorem dX3_sortOf_4 : decode cX3_sortOf 4 = .ok (.iload_n 1, 1) := by decide +kernel
theorem dX3_sortOf_5 : decode cX3_sortOf 5 = .ok (.invokestatic 46, 3) := by decide +kernel
theorem dX3_sortOf_8 : decode cX3_sortOf 8 = .ok (.ireturn, 1) := by decide +kernel
theorem dX3_pageOf_0 : decode cX3_pageOf 0 = .ok (.aload_n 0, 1) := by decide +kernel
theorem dX3_pageOf_1 : decode cX3_pageOf 1 = .ok (.getfield 15, 3) := by decide +kernel
theorem dX3_pageOf_4 : decode cX3_pageOf 4 = .ok (.iload_n 1, 1) := by decide +kernel
theorem dX3_pageOf_5 : decode cX3_pageOf 5 = .ok (.invokestatic 46, 3) := by decide +kernel
theorem dX3_pageOf_8 : decode cX3_pageOf 8 = .ok (.ireturn, 1) := by decide +kernel
theorem dX3_signOf_0 : decode cX3_signOf 0 = .ok (.aload_n 0, 1) := by decide +kernel
theorem dX3_signOf_1 : decode cX3_signOf 1 = .ok (.getfield 18, 3) := by decide +kernel
theorem dX3_signOf_4 : decode cX3_signOf 4 = .ok (.iload_n 1, 1) := by decide +kernel
theorem dX3_signOf_5 : decode cX3_signOf 5 = .ok (.invokestatic 46, 3) := by decide +kernel
theorem dX3_signOf_8 : decode cX3_signOf 8 = .ok (.ireturn, 1) := by decide +kernel
theorem dX3_itemOf_0 : decode cX3_itemOf 0 = .ok (.aload_n 0, 1) := by decide +kernel
theorem dX3_itemOf_1 : decode cX3_itemOf 1 = .ok (.iload_n 1, 1) := by decide +kernel
theorem dX3_itemOf_2 : decode cX3_itemOf 2 = .ok (.invokevirtual 32, 3) := by decide +kernel
theorem dX3_itemOf_5 : decode cX3_itemOf 5 = .ok (.iconst 2, 1) := by decide +kernel
theorem dX3_itemOf_6 : decode cX3_itemOf 6 = .ok (.if_icmp .ne 20, 3) := by decide +kernel
theorem dX3_itemOf_9 : decode cX3_itemOf 9 = .ok (.bipush 10, 2) := by decide +kernel
theorem dX3_itemOf_11 : decode cX3_itemOf 11 = .ok (.aload_n 0, 1) := by decide +kernel
theorem dX3_itemOf_12 : decode cX3_itemOf 12 = .ok (.iload_n 1, 1) := by decide +kernel
theorem dX3_itemOf_13 : decode cX3_itemOf 13 = .ok (.invokevirtual 36, 3) := by decide +kernel
theorem dX3_itemOf_16 : decode cX3_itemOf 16 = .ok (.imul, 1) := by decide +kernel
theorem dX3_itemOf_17 : decode cX3_itemOf 17 = .ok (.aload_n 0, 1) := by decide +kernel
theorem dX3_itemOf_18 : decode cX3_itemOf 18 = .ok (.iload_n 1, 1) := by decide +kernel
theorem dX3_itemOf_19 : decode cX3_itemOf 19 = .ok (.invokevirtual 39, 3) := by decide +kernel
theorem dX3_itemOf_22 : decode cX3_itemOf 22 = .ok (.iadd, 1) := by decide +kernel
theorem dX3_itemOf_23 : decode cX3_itemOf 23 = .ok (.goto 8, 3) := by decide +kernel
theorem dX3_itemOf_26 : decode cX3_itemOf 26 = .ok (.aload_n 0, 1) := by decide +kernel
theorem dX3_itemOf_27 : decode cX3_itemOf 27 = .ok (.iload_n 1, 1) := by decide +kernel
theorem dX3_itemOf_28 : decode cX3_itemOf 28 = .ok (.invokevirtual 39, 3) := by decide +kernel
theorem dX3_itemOf_31 : decode cX3_itemOf 31 = .ok (.ireturn, 1) := by decide +kernel
theorem dX4_init_0 : decode cX4_init 0 = .ok (.aload_n 0, 1) := by decide +kernel
theorem dX4_init_1 : decode cX4_init 1 = .ok (.invokespecial 1, 3) := by decide +kernel
theorem dX4_init_4 : decode cX4_init 4 = .ok (.aload_n 0, 1) := by decide +kernel
theorem dX4_init_5 : decode cX4_init 5 = .ok (.aload_n 1, 1) := by decide +kernel
theorem dX4_init_6 : decode cX4_init 6 = .ok (.putfield 7, 3) := by decide +kernel
theorem dX4_init_9 : decode cX4_init 9 = .ok (.aload_n 0, 1) := by decide +kernel
theorem dX4_init_10 : decode cX4_init 10 = .ok (.iload_n 2, 1) := by decide +kernel
theorem dX4_init_11 : decode cX4_init 11 = .ok (.putfield 13, 3) := by decide +kernel
theorem dX4_init_14 : decode cX4_init 14 = .ok (.aload_n 0, 1) := by decide +kernel
theorem dX4_init_15 : decode cX4_init 15 = .ok (.aload_n 3, 1) := by decide +kernel
theorem dX4_init_16 : decode cX4_init 16 = .ok (.putfield 17, 3) := by decide +kernel
theorem dX4_init_19 : decode cX4_init 19 = .ok (.aload_n 0, 1) := by decide +kernel
theorem dX4_init_20 : decode cX4_init 20 = .ok (.iload 4, 2) := by decide +kernel
theorem dX4_init_22 : decode cX4_init 22 = .ok (.putfield 21, 3) := by decide +kernel
theorem dX4_init_25 : decode cX4_init 25 = .ok (.return_, 1) := by decide +kernel
