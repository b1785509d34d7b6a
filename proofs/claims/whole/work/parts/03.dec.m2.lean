theorem dX10_without_30 : decode cX10_without 30 = .ok (.ixor, 1) := by decide +kernel
theorem dX10_without_31 : decode cX10_without 31 = .ok (.iand, 1) := by decide +kernel
theorem dX10_without_32 : decode cX10_without 32 = .ok (.invokevirtual 221, 3) := by decide +kernel
theorem dX10_without_35 : decode cX10_without 35 = .ok (.ireturn, 1) := by decide +kernel
theorem dX10_matchAt_0 : decode cX10_matchAt 0 = .ok (.iload_n 2, 1) := by decide +kernel
theorem dX10_matchAt_1 : decode cX10_matchAt 1 = .ok (.iconst 2, 1) := by decide +kernel
theorem dX10_matchAt_2 : decode cX10_matchAt 2 = .ok (.irem, 1) := by decide +kernel
theorem dX10_matchAt_3 : decode cX10_matchAt 3 = .ok (.ifCond .ne 16, 3) := by decide +kernel
theorem dX10_matchAt_6 : decode cX10_matchAt 6 = .ok (.aload_n 0, 1) := by decide +kernel
theorem dX10_matchAt_7 : decode cX10_matchAt 7 = .ok (.iload_n 2, 1) := by decide +kernel
theorem dX10_matchAt_8 : decode cX10_matchAt 8 = .ok (.iconst 2, 1) := by decide +kernel
theorem dX10_matchAt_9 : decode cX10_matchAt 9 = .ok (.idiv, 1) := by decide +kernel
theorem dX10_matchAt_10 : decode cX10_matchAt 10 = .ok (.iload_n 1, 1) := by decide +kernel
theorem dX10_matchAt_11 : decode cX10_matchAt 11 = .ok (.iconst 2, 1) := by decide +kernel
theorem dX10_matchAt_12 : decode cX10_matchAt 12 = .ok (.idiv, 1) := by decide +kernel
theorem dX10_matchAt_13 : decode cX10_matchAt 13 = .ok (.invokevirtual 109, 3) := by decide +kernel
theorem dX10_matchAt_16 : decode cX10_matchAt 16 = .ok (.goto 13, 3) := by decide +kernel
theorem dX10_matchAt_19 : decode cX10_matchAt 19 = .ok (.aload_n 0, 1) := by decide +kernel
theorem dX10_matchAt_20 : decode cX10_matchAt 20 = .ok (.iload_n 2, 1) := by decide +kernel
theorem dX10_matchAt_21 : decode cX10_matchAt 21 = .ok (.iconst 2, 1) := by decide +kernel
theorem dX10_matchAt_22 : decode cX10_matchAt 22 = .ok (.idiv, 1) := by decide +kernel
theorem dX10_matchAt_23 : decode cX10_matchAt 23 = .ok (.iload_n 1, 1) := by decide +kernel
theorem dX10_matchAt_24 : decode cX10_matchAt 24 = .ok (.iconst 2, 1) := by decide +kernel
theorem dX10_matchAt_25 : decode cX10_matchAt 25 = .ok (.idiv, 1) := by decide +kernel
theorem dX10_matchAt_26 : decode cX10_matchAt 26 = .ok (.invokevirtual 113, 3) := by decide +kernel
theorem dX10_matchAt_29 : decode cX10_matchAt 29 = .ok (.ireturn, 1) := by decide +kernel
theorem dX10_turned_0 : decode cX10_turned 0 = .ok (.iload_n 1, 1) := by decide +kernel
theorem dX10_turned_1 : decode cX10_turned 1 = .ok (.aload_n 0, 1) := by decide +kernel
theorem dX10_turned_2 : decode cX10_turned 2 = .ok (.getfield 103, 3) := by decide +kernel
theorem dX10_turned_5 : decode cX10_turned 5 = .ok (.aload_n 0, 1) := by decide +kernel
theorem dX10_turned_6 : decode cX10_turned 6 = .ok (.getfield 106, 3) := by decide +kernel
theorem dX10_turned_9 : decode cX10_turned 9 = .ok (.iconst 1, 1) := by decide +kernel
theorem dX10_turned_10 : decode cX10_turned 10 = .ok (.iadd, 1) := by decide +kernel
theorem dX10_turned_11 : decode cX10_turned 11 = .ok (.imul, 1) := by decide +kernel
theorem dX10_turned_12 : decode cX10_turned 12 = .ok (.if_icmp .ge 7, 3) := by decide +kernel
theorem dX10_turned_15 : decode cX10_turned 15 = .ok (.iconst 1, 1) := by decide +kernel
theorem dX10_turned_16 : decode cX10_turned 16 = .ok (.goto 4, 3) := by decide +kernel
theorem dX10_turned_19 : decode cX10_turned 19 = .ok (.iconst 0, 1) := by decide +kernel
theorem dX10_turned_20 : decode cX10_turned 20 = .ok (.istore_n 3, 1) := by decide +kernel
theorem dX10_turned_21 : decode cX10_turned 21 = .ok (.iload_n 1, 1) := by decide +kernel
theorem dX10_turned_22 : decode cX10_turned 22 = .ok (.aload_n 0, 1) := by decide +kernel
theorem dX10_turned_23 : decode cX10_turned 23 = .ok (.getfield 103, 3) := by decide +kernel
theorem dX10_turned_26 : decode cX10_turned 26 = .ok (.aload_n 0, 1) := by decide +kernel
theorem dX10_turned_27 : decode cX10_turned 27 = .ok (.getfield 106, 3) := by decide +kernel
theorem dX10_turned_30 : decode cX10_turned 30 = .ok (.iconst 1, 1) := by decide +kernel
theorem dX10_turned_31 : decode cX10_turned 31 = .ok (.iadd, 1) := by decide +kernel
theorem dX10_turned_32 : decode cX10_turned 32 = .ok (.imul, 1) := by decide +kernel
theorem dX10_turned_33 : decode cX10_turned 33 = .ok (.isub, 1) := by decide +kernel
theorem dX10_turned_34 : decode cX10_turned 34 = .ok (.istore 4, 2) := by decide +kernel
theorem dX10_turned_36 : decode cX10_turned 36 = .ok (.iload_n 3, 1) := by decide +kernel
theorem dX10_turned_37 : decode cX10_turned 37 = .ok (.ifCond .eq 16, 3) := by decide +kernel
theorem dX10_turned_40 : decode cX10_turned 40 = .ok (.iconst 2, 1) := by decide +kernel
theorem dX10_turned_41 : decode cX10_turned 41 = .ok (.iload_n 1, 1) := by decide +kernel
theorem dX10_turned_42 : decode cX10_turned 42 = .ok (.aload_n 0, 1) := by decide +kernel
theorem dX10_turned_43 : decode cX10_turned 43 = .ok (.getfield 103, 3) := by decide +kernel
theorem dX10_turned_46 : decode cX10_turned 46 = .ok (.irem, 1) := by decide +kernel
theorem dX10_turned_47 : decode cX10_turned 47 = .ok (.imul, 1) := by decide +kernel
theorem dX10_turned_48 : decode cX10_turned 48 = .ok (.iconst 1, 1) := by decide +kernel
theorem dX10_turned_49 : decode cX10_turned 49 = .ok (.iadd, 1) := by decide +kernel
theorem dX10_turned_50 : decode cX10_turned 50 = .ok (.goto 14, 3) := by decide +kernel
theorem dX10_turned_53 : decode cX10_turned 53 = .ok (.iconst 2, 1) := by decide +kernel
theorem dX10_turned_54 : decode cX10_turned 54 = .ok (.iload 4, 2) := by decide +kernel
theorem dX10_turned_56 : decode cX10_turned 56 = .ok (.aload_n 0, 1) := by decide +kernel
theorem dX10_turned_57 : decode cX10_turned 57 = .ok (.getfield 103, 3) := by decide +kernel
theorem dX10_turned_60 : decode cX10_turned 60 = .ok (.iconst 1, 1) := by decide +kernel
theorem dX10_turned_61 : decode cX10_turned 61 = .ok (.iadd, 1) := by decide +kernel
theorem dX10_turned_62 : decode cX10_turned 62 = .ok (.irem, 1) := by decide +kernel
theorem dX10_turned_63 : decode cX10_turned 63 = .ok (.imul, 1) := by decide +kernel
theorem dX10_turned_64 : decode cX10_turned 64 = .ok (.istore 5, 2) := by decide +kernel
theorem dX10_turned_66 : decode cX10_turned 66 = .ok (.iload_n 3, 1) := by decide +kernel
theorem dX10_turned_67 : decode cX10_turned 67 = .ok (.ifCond .eq 14, 3) := by decide +kernel
theorem dX10_turned_70 : decode cX10_turned 70 = .ok (.iconst 2, 1) := by decide +kernel
theorem dX10_turned_71 : decode cX10_turned 71 = .ok (.iload_n 1, 1) := by decide +kernel
theorem dX10_turned_72 : decode cX10_turned 72 = .ok (.aload_n 0, 1) := by decide +kernel
theorem dX10_turned_73 : decode cX10_turned 73 = .ok (.getfield 103, 3) := by decide +kernel
theorem dX10_turned_76 : decode cX10_turned 76 = .ok (.idiv, 1) := by decide +kernel
theorem dX10_turned_77 : decode cX10_turned 77 = .ok (.imul, 1) := by decide +kernel
theorem dX10_turned_78 : decode cX10_turned 78 = .ok (.goto 16, 3) := by decide +kernel
theorem dX10_turned_81 : decode cX10_turned 81 = .ok (.iconst 2, 1) := by decide +kernel
theorem dX10_turned_82 : decode cX10_turned 82 = .ok (.iload 4, 2) := by decide +kernel
theorem dX10_turned_84 : decode cX10_turned 84 = .ok (.aload_n 0, 1) := by decide +kernel
theorem dX10_turned_85 : decode cX10_turned 85 = .ok (.getfield 103, 3) := by decide +kernel
theorem dX10_turned_88 : decode cX10_turned 88 = .ok (.iconst 1, 1) := by decide +kernel
theorem dX10_turned_89 : decode cX10_turned 89 = .ok (.iadd, 1) := by decide +kernel
theorem dX10_turned_90 : decode cX10_turned 90 = .ok (.idiv, 1) := by decide +kernel
theorem dX10_turned_91 : decode cX10_turned 91 = .ok (.imul, 1) := by decide +kernel
theorem dX10_turned_92 : decode cX10_turned 92 = .ok (.iconst 1, 1) := by decide +kernel
theorem dX10_turned_93 : decode cX10_turned 93 = .ok (.iadd, 1) := by decide +kernel
theorem dX10_turned_94 : decode cX10_turned 94 = .ok (.istore 6, 2) := by decide +kernel
theorem dX10_turned_96 : decode cX10_turned 96 = .ok (.iload_n 2, 1) := by decide +kernel
theorem dX10_turned_97 : decode cX10_turned 97 = .ok (.iconst 1, 1) := by decide +kernel
theorem dX10_turned_98 : decode cX10_turned 98 = .ok (.iand, 1) := by decide +kernel
theorem dX10_turned_99 : decode cX10_turned 99 = .ok (.iconst 1, 1) := by decide +kernel
theorem dX10_turned_100 : decode cX10_turned 100 = .ok (.if_icmp .ne 15, 3) := by decide +kernel
theorem dX10_turned_103 : decode cX10_turned 103 = .ok (.iconst 2, 1) := by decide +kernel
theorem dX10_turned_104 : decode cX10_turned 104 = .ok (.aload_n 0, 1) := by decide +kernel
theorem dX10_turned_105 : decode cX10_turned 105 = .ok (.getfield 103, 3) := by decide +kernel
theorem dX10_turned_108 : decode cX10_turned 108 = .ok (.imul, 1) := by decide +kernel
theorem dX10_turned_109 : decode cX10_turned 109 = .ok (.iload 5, 2) := by decide +kernel
theorem dX10_turned_111 : decode cX10_turned 111 = .ok (.isub, 1) := by decide +kernel
theorem dX10_turned_112 : decode cX10_turned 112 = .ok (.goto 5, 3) := by decide +kernel
theorem dX10_turned_115 : decode cX10_turned 115 = .ok (.iload 5, 2) := by decide +kernel
theorem dX10_turned_117 : decode cX10_turned 117 = .ok (.istore 5, 2) := by decide +kernel
theorem dX10_turned_119 : decode cX10_turned 119 = .ok (.iload_n 2, 1) := by decide +kernel
theorem dX10_turned_120 : decode cX10_turned 120 = .ok (.iconst 2, 1) := by decide +kernel
theorem dX10_turned_121 : decode cX10_turned 121 = .ok (.iand, 1) := by decide +kernel
theorem dX10_turned_122 : decode cX10_turned 122 = .ok (.iconst 2, 1) := by decide +kernel
theorem dX10_turned_123 : decode cX10_turned 123 = .ok (.if_icmp .ne 15, 3) := by decide +kernel
theorem dX10_turned_126 : decode cX10_turned 126 = .ok (.iconst 2, 1) := by decide +kernel
theorem dX10_turned_127 : decode cX10_turned 127 = .ok (.aload_n 0, 1) := by decide +kernel
theorem dX10_turned_128 : decode cX10_turned 128 = .ok (.getfield 106, 3) := by decide +kernel
theorem dX10_turned_131 : decode cX10_turned 131 = .ok (.imul, 1) := by decide +kernel
theorem dX10_turned_132 : decode cX10_turned 132 = .ok (.iload 6, 2) := by decide +kernel
theorem dX10_turned_134 : decode cX10_turned 134 = .ok (.isub, 1) := by decide +kernel
theorem dX10_turned_135 : decode cX10_turned 135 = .ok (.goto 5, 3) := by decide +kernel
theorem dX10_turned_138 : decode cX10_turned 138 = .ok (.iload 6, 2) := by decide +kernel
theorem dX10_turned_140 : decode cX10_turned 140 = .ok (.istore 6, 2) := by decide +kernel
theorem dX10_turned_142 : decode cX10_turned 142 = .ok (.iload_n 2, 1) := by decide +kernel
theorem dX10_turned_143 : decode cX10_turned 143 = .ok (.iconst 4, 1) := by decide +kernel
theorem dX10_turned_144 : decode cX10_turned 144 = .ok (.iand, 1) := by decide +kernel
theorem dX10_turned_145 : decode cX10_turned 145 = .ok (.iconst 4, 1) := by decide +kernel
theorem dX10_turned_146 : decode cX10_turned 146 = .ok (.if_icmp .ne 14, 3) := by decide +kernel
theorem dX10_turned_149 : decode cX10_turned 149 = .ok (.aload_n 0, 1) := by decide +kernel
theorem dX10_turned_150 : decode cX10_turned 150 = .ok (.iload 6, 2) := by decide +kernel
theorem dX10_turned_152 : decode cX10_turned 152 = .ok (.iload 5, 2) := by decide +kernel
theorem dX10_turned_154 : decode cX10_turned 154 = .ok (.invokevirtual 255, 3) := by decide +kernel
theorem dX10_turned_157 : decode cX10_turned 157 = .ok (.goto 11, 3) := by decide +kernel
theorem dX10_turned_160 : decode cX10_turned 160 = .ok (.aload_n 0, 1) := by decide +kernel
theorem dX10_turned_161 : decode cX10_turned 161 = .ok (.iload 5, 2) := by decide +kernel
theorem dX10_turned_163 : decode cX10_turned 163 = .ok (.iload 6, 2) := by decide +kernel
theorem dX10_turned_165 : decode cX10_turned 165 = .ok (.invokevirtual 255, 3) := by decide +kernel
theorem dX10_turned_168 : decode cX10_turned 168 = .ok (.ireturn, 1) := by decide +kernel
theorem dX10_turnedSet_0 : decode cX10_turnedSet 0 = .ok (.iconst 0, 1) := by decide +kernel
theorem dX10_turnedSet_1 : decode cX10_turnedSet 1 = .ok (.istore_n 3, 1) := by decide +kernel
theorem dX10_turnedSet_2 : decode cX10_turnedSet 2 = .ok (.iconst 0, 1) := by decide +kernel
theorem dX10_turnedSet_3 : decode cX10_turnedSet 3 = .ok (.istore 4, 2) := by decide +kernel
theorem dX10_turnedSet_5 : decode cX10_turnedSet 5 = .ok (.iload 4, 2) := by decide +kernel
theorem dX10_turnedSet_7 : decode cX10_turnedSet 7 = .ok (.aload_n 0, 1) := by decide +kernel
theorem dX10_turnedSet_8 : decode cX10_turnedSet 8 = .ok (.getfield 123, 3) := by decide +kernel
theorem dX10_turnedSet_11 : decode cX10_turnedSet 11 = .ok (.if_icmp .ge 26, 3) := by decide +kernel
theorem dX10_turnedSet_14 : decode cX10_turnedSet 14 = .ok (.iload_n 3, 1) := by decide +kernel
theorem dX10_turnedSet_15 : decode cX10_turnedSet 15 = .ok (.iload_n 1, 1) := by decide +kernel
theorem dX10_turnedSet_16 : decode cX10_turnedSet 16 = .ok (.iload 4, 2) := by decide +kernel
theorem dX10_turnedSet_18 : decode cX10_turnedSet 18 = .ok (.ishr, 1) := by decide +kernel
theorem dX10_turnedSet_19 : decode cX10_turnedSet 19 = .ok (.iconst 1, 1) := by decide +kernel
theorem dX10_turnedSet_20 : decode cX10_turnedSet 20 = .ok (.iand, 1) := by decide +kernel
theorem dX10_turnedSet_21 : decode cX10_turnedSet 21 = .ok (.aload_n 0, 1) := by decide +kernel
theorem dX10_turnedSet_22 : decode cX10_turnedSet 22 = .ok (.iload 4, 2) := by decide +kernel
theorem dX10_turnedSet_24 : decode cX10_turnedSet 24 = .ok (.iload_n 2, 1) := by decide +kernel
theorem dX10_turnedSet_25 : decode cX10_turnedSet 25 = .ok (.invokevirtual 258, 3) := by decide +kernel
theorem dX10_turnedSet_28 : decode cX10_turnedSet 28 = .ok (.ishl, 1) := by decide +kernel
theorem dX10_turnedSet_29 : decode cX10_turnedSet 29 = .ok (.ior, 1) := by decide +kernel
theorem dX10_turnedSet_30 : decode cX10_turnedSet 30 = .ok (.istore_n 3, 1) := by decide +kernel
theorem dX10_turnedSet_31 : decode cX10_turnedSet 31 = .ok (.iinc 4 1, 3) := by decide +kernel
theorem dX10_turnedSet_34 : decode cX10_turnedSet 34 = .ok (.goto (-29), 3) := by decide +kernel
theorem dX10_turnedSet_37 : decode cX10_turnedSet 37 = .ok (.iload_n 3, 1) := by decide +kernel
theorem dX10_turnedSet_38 : decode cX10_turnedSet 38 = .ok (.ireturn, 1) := by decide +kernel
theorem dX10_isSet_0 : decode cX10_isSet 0 = .ok (.iload_n 1, 1) := by decide +kernel
theorem dX10_isSet_1 : decode cX10_isSet 1 = .ok (.ifCond .lt 26, 3) := by decide +kernel
theorem dX10_isSet_4 : decode cX10_isSet 4 = .ok (.aload_n 0, 1) := by decide +kernel
theorem dX10_isSet_5 : decode cX10_isSet 5 = .ok (.getfield 123, 3) := by decide +kernel
theorem dX10_isSet_8 : decode cX10_isSet 8 = .ok (.bipush 31, 2) := by decide +kernel
theorem dX10_isSet_10 : decode cX10_isSet 10 = .ok (.if_icmp .eq 13, 3) := by decide +kernel
theorem dX10_isSet_13 : decode cX10_isSet 13 = .ok (.iload_n 1, 1) := by decide +kernel
theorem dX10_isSet_14 : decode cX10_isSet 14 = .ok (.iconst 1, 1) := by decide +kernel
theorem dX10_isSet_15 : decode cX10_isSet 15 = .ok (.aload_n 0, 1) := by decide +kernel
theorem dX10_isSet_16 : decode cX10_isSet 16 = .ok (.getfield 123, 3) := by decide +kernel
theorem dX10_isSet_19 : decode cX10_isSet 19 = .ok (.ishl, 1) := by decide +kernel
theorem dX10_isSet_20 : decode cX10_isSet 20 = .ok (.if_icmp .ge 7, 3) := by decide +kernel
theorem dX10_isSet_23 : decode cX10_isSet 23 = .ok (.iconst 1, 1) := by decide +kernel
theorem dX10_isSet_24 : decode cX10_isSet 24 = .ok (.goto 4, 3) := by decide +kernel
theorem dX10_isSet_27 : decode cX10_isSet 27 = .ok (.iconst 0, 1) := by decide +kernel
theorem dX10_isSet_28 : decode cX10_isSet 28 = .ok (.ireturn, 1) := by decide +kernel
theorem dX10_alike_0 : decode cX10_alike 0 = .ok (.aload_n 0, 1) := by decide +kernel
theorem dX10_alike_1 : decode cX10_alike 1 = .ok (.iload_n 1, 1) := by decide +kernel
theorem dX10_alike_2 : decode cX10_alike 2 = .ok (.invokevirtual 261, 3) := by decide +kernel
theorem dX10_alike_5 : decode cX10_alike 5 = .ok (.ifCond .eq 11, 3) := by decide +kernel
theorem dX10_alike_8 : decode cX10_alike 8 = .ok (.aload_n 0, 1) := by decide +kernel
theorem dX10_alike_9 : decode cX10_alike 9 = .ok (.iload_n 2, 1) := by decide +kernel
theorem dX10_alike_10 : decode cX10_alike 10 = .ok (.invokevirtual 261, 3) := by decide +kernel
theorem dX10_alike_13 : decode cX10_alike 13 = .ok (.ifCond .ne 5, 3) := by decide +kernel
theorem dX10_alike_16 : decode cX10_alike 16 = .ok (.iconst (-1), 1) := by decide +kernel
theorem dX10_alike_17 : decode cX10_alike 17 = .ok (.ireturn, 1) := by decide +kernel
theorem dX10_alike_18 : decode cX10_alike 18 = .ok (.iconst 0, 1) := by decide +kernel
theorem dX10_alike_19 : decode cX10_alike 19 = .ok (.istore_n 3, 1) := by decide +kernel
theorem dX10_alike_20 : decode cX10_alike 20 = .ok (.iconst 0, 1) := by decide +kernel
theorem dX10_alike_21 : decode cX10_alike 21 = .ok (.istore 4, 2) := by decide +kernel
theorem dX10_alike_23 : decode cX10_alike 23 = .ok (.iload 4, 2) := by decide +kernel
theorem dX10_alike_25 : decode cX10_alike 25 = .ok (.aload_n 0, 1) := by decide +kernel
theorem dX10_alike_26 : decode cX10_alike 26 = .ok (.getfield 103, 3) := by decide +kernel
theorem dX10_alike_29 : decode cX10_alike 29 = .ok (.aload_n 0, 1) := by decide +kernel
theorem dX10_alike_30 : decode cX10_alike 30 = .ok (.getfield 106, 3) := by decide +kernel
theorem dX10_alike_33 : decode cX10_alike 33 = .ok (.if_icmp .ne 8, 3) := by decide +kernel
theorem dX10_alike_36 : decode cX10_alike 36 = .ok (.bipush 8, 2) := by decide +kernel
theorem dX10_alike_38 : decode cX10_alike 38 = .ok (.goto 4, 3) := by decide +kernel
theorem dX10_alike_41 : decode cX10_alike 41 = .ok (.iconst 4, 1) := by decide +kernel
theorem dX10_alike_42 : decode cX10_alike 42 = .ok (.if_icmp .ge 30, 3) := by decide +kernel
theorem dX10_alike_45 : decode cX10_alike 45 = .ok (.iload_n 3, 1) := by decide +kernel
theorem dX10_alike_46 : decode cX10_alike 46 = .ok (.ifCond .ne 14, 3) := by decide +kernel
theorem dX10_alike_49 : decode cX10_alike 49 = .ok (.aload_n 0, 1) := by decide +kernel
theorem dX10_alike_50 : decode cX10_alike 50 = .ok (.iload_n 1, 1) := by decide +kernel
theorem dX10_alike_51 : decode cX10_alike 51 = .ok (.iload 4, 2) := by decide +kernel
theorem dX10_alike_53 : decode cX10_alike 53 = .ok (.invokevirtual 264, 3) := by decide +kernel
theorem dX10_alike_56 : decode cX10_alike 56 = .ok (.iload_n 2, 1) := by decide +kernel
theorem dX10_alike_57 : decode cX10_alike 57 = .ok (.if_icmp .ne 7, 3) := by decide +kernel
theorem dX10_alike_60 : decode cX10_alike 60 = .ok (.iconst 1, 1) := by decide +kernel
theorem dX10_alike_61 : decode cX10_alike 61 = .ok (.goto 4, 3) := by decide +kernel
theorem dX10_alike_64 : decode cX10_alike 64 = .ok (.iconst 0, 1) := by decide +kernel
theorem dX10_alike_65 : decode cX10_alike 65 = .ok (.istore_n 3, 1) := by decide +kernel
theorem dX10_alike_66 : decode cX10_alike 66 = .ok (.iinc 4 1, 3) := by decide +kernel
theorem dX10_alike_69 : decode cX10_alike 69 = .ok (.goto (-46), 3) := by decide +kernel
theorem dX10_alike_72 : decode cX10_alike 72 = .ok (.iload_n 3, 1) := by decide +kernel
theorem dX10_alike_73 : decode cX10_alike 73 = .ok (.invokestatic 209, 3) := by decide +kernel
theorem dX10_alike_76 : decode cX10_alike 76 = .ok (.ireturn, 1) := by decide +kernel
theorem dX10_findSome_0 : decode cX10_findSome 0 = .ok (.aload_n 0, 1) := by decide +kernel
theorem dX10_findSome_1 : decode cX10_findSome 1 = .ok (.iconst 0, 1) := by decide +kernel
theorem dX10_findSome_2 : decode cX10_findSome 2 = .ok (.putfield 267, 3) := by decide +kernel
theorem dX10_findSome_5 : decode cX10_findSome 5 = .ok (.iconst 0, 1) := by decide +kernel
theorem dX10_findSome_6 : decode cX10_findSome 6 = .ok (.istore_n 2, 1) := by decide +kernel
theorem dX10_findSome_7 : decode cX10_findSome 7 = .ok (.iload_n 2, 1) := by decide +kernel
theorem dX10_findSome_8 : decode cX10_findSome 8 = .ok (.aload_n 0, 1) := by decide +kernel
theorem dX10_findSome_9 : decode cX10_findSome 9 = .ok (.getfield 123, 3) := by decide +kernel
theorem dX10_findSome_12 : decode cX10_findSome 12 = .ok (.if_icmp .ge 38, 3) := by decide +kernel
theorem dX10_findSome_15 : decode cX10_findSome 15 = .ok (.iload_n 1, 1) := by decide +kernel
theorem dX10_findSome_16 : decode cX10_findSome 16 = .ok (.iload_n 2, 1) := by decide +kernel
theorem dX10_findSome_17 : decode cX10_findSome 17 = .ok (.ishr, 1) := by decide +kernel
theorem dX10_findSome_18 : decode cX10_findSome 18 = .ok (.iconst 1, 1) := by decide +kernel
theorem dX10_findSome_19 : decode cX10_findSome 19 = .ok (.iand, 1) := by decide +kernel
theorem dX10_findSome_20 : decode cX10_findSome 20 = .ok (.iconst 1, 1) := by decide +kernel
theorem dX10_findSome_21 : decode cX10_findSome 21 = .ok (.if_icmp .ne 23, 3) := by decide +kernel
theorem dX10_findSome_24 : decode cX10_findSome 24 = .ok (.aload_n 0, 1) := by decide +kernel
theorem dX10_findSome_25 : decode cX10_findSome 25 = .ok (.getfield 53, 3) := by decide +kernel
theorem dX10_findSome_28 : decode cX10_findSome 28 = .ok (.aload_n 0, 1) := by decide +kernel
theorem dX10_findSome_29 : decode cX10_findSome 29 = .ok (.getfield 267, 3) := by decide +kernel
theorem dX10_findSome_32 : decode cX10_findSome 32 = .ok (.iload_n 2, 1) := by decide +kernel
theorem dX10_findSome_33 : decode cX10_findSome 33 = .ok (.iastore, 1) := by decide +kernel
theorem dX10_findSome_34 : decode cX10_findSome 34 = .ok (.aload_n 0, 1) := by decide +kernel
theorem dX10_findSome_35 : decode cX10_findSome 35 = .ok (.dup, 1) := by decide +kernel
theorem dX10_findSome_36 : decode cX10_findSome 36 = .ok (.getfield 267, 3) := by decide +kernel
theorem dX10_findSome_39 : decode cX10_findSome 39 = .ok (.iconst 1, 1) := by decide +kernel
theorem dX10_findSome_40 : decode cX10_findSome 40 = .ok (.iadd, 1) := by decide +kernel
theorem dX10_findSome_41 : decode cX10_findSome 41 = .ok (.putfield 267, 3) := by decide +kernel
theorem dX10_findSome_44 : decode cX10_findSome 44 = .ok (.iinc 2 1, 3) := by decide +kernel
theorem dX10_findSome_47 : decode cX10_findSome 47 = .ok (.goto (-40), 3) := by decide +kernel
theorem dX10_findSome_50 : decode cX10_findSome 50 = .ok (.return_, 1) := by decide +kernel
theorem dX10_firstOf_0 : decode cX10_firstOf 0 = .ok (.iconst 0, 1) := by decide +kernel
theorem dX10_firstOf_1 : decode cX10_firstOf 1 = .ok (.istore_n 2, 1) := by decide +kernel
theorem dX10_firstOf_2 : decode cX10_firstOf 2 = .ok (.iload_n 2, 1) := by decide +kernel
theorem dX10_firstOf_3 : decode cX10_firstOf 3 = .ok (.iload_n 1, 1) := by decide +kernel
theorem dX10_firstOf_4 : decode cX10_firstOf 4 = .ok (.if_icmp .ge 16, 3) := by decide +kernel
theorem dX10_firstOf_7 : decode cX10_firstOf 7 = .ok (.aload_n 0, 1) := by decide +kernel
theorem dX10_firstOf_8 : decode cX10_firstOf 8 = .ok (.getfield 56, 3) := by decide +kernel
theorem dX10_firstOf_11 : decode cX10_firstOf 11 = .ok (.iload_n 2, 1) := by decide +kernel
theorem dX10_firstOf_12 : decode cX10_firstOf 12 = .ok (.iload_n 2, 1) := by decide +kernel
theorem dX10_firstOf_13 : decode cX10_firstOf 13 = .ok (.iastore, 1) := by decide +kernel
theorem dX10_firstOf_14 : decode cX10_firstOf 14 = .ok (.iinc 2 1, 3) := by decide +kernel
theorem dX10_firstOf_17 : decode cX10_firstOf 17 = .ok (.goto (-15), 3) := by decide +kernel
theorem dX10_firstOf_20 : decode cX10_firstOf 20 = .ok (.return_, 1) := by decide +kernel
theorem dX10_setNow_0 : decode cX10_setNow 0 = .ok (.iconst 0, 1) := by decide +kernel
theorem dX10_setNow_1 : decode cX10_setNow 1 = .ok (.istore_n 2, 1) := by decide +kernel
theorem dX10_setNow_2 : decode cX10_setNow 2 = .ok (.iconst 0, 1) := by decide +kernel
theorem dX10_setNow_3 : decode cX10_setNow 3 = .ok (.istore_n 3, 1) := by decide +kernel
theorem dX10_setNow_4 : decode cX10_setNow 4 = .ok (.iload_n 3, 1) := by decide +kernel
theorem dX10_setNow_5 : decode cX10_setNow 5 = .ok (.iload_n 1, 1) := by decide +kernel
theorem dX10_setNow_6 : decode cX10_setNow 6 = .ok (.if_icmp .ge 25, 3) := by decide +kernel
theorem dX10_setNow_9 : decode cX10_setNow 9 = .ok (.iload_n 2, 1) := by decide +kernel
theorem dX10_setNow_10 : decode cX10_setNow 10 = .ok (.iconst 1, 1) := by decide +kernel
theorem dX10_setNow_11 : decode cX10_setNow 11 = .ok (.aload_n 0, 1) := by decide +kernel
theorem dX10_setNow_12 : decode cX10_setNow 12 = .ok (.getfield 53, 3) := by decide +kernel
theorem dX10_setNow_15 : decode cX10_setNow 15 = .ok (.aload_n 0, 1) := by decide +kernel
theorem dX10_setNow_16 : decode cX10_setNow 16 = .ok (.getfield 56, 3) := by decide +kernel
theorem dX10_setNow_19 : decode cX10_setNow 19 = .ok (.iload_n 3, 1) := by decide +kernel
theorem dX10_setNow_20 : decode cX10_setNow 20 = .ok (.iaload, 1) := by decide +kernel
theorem dX10_setNow_21 : decode cX10_setNow 21 = .ok (.iaload, 1) := by decide +kernel
theorem dX10_setNow_22 : decode cX10_setNow 22 = .ok (.ishl, 1) := by decide +kernel
theorem dX10_setNow_23 : decode cX10_setNow 23 = .ok (.ior, 1) := by decide +kernel
theorem dX10_setNow_24 : decode cX10_setNow 24 = .ok (.istore_n 2, 1) := by decide +kernel
theorem dX10_setNow_25 : decode cX10_setNow 25 = .ok (.iinc 3 1, 3) := by decide +kernel
theorem dX10_setNow_28 : decode cX10_setNow 28 = .ok (.goto (-24), 3) := by decide +kernel
theorem dX10_setNow_31 : decode cX10_setNow 31 = .ok (.iload_n 2, 1) := by decide +kernel
theorem dX10_setNow_32 : decode cX10_setNow 32 = .ok (.ireturn, 1) := by decide +kernel
theorem dX10_nextOf_0 : decode cX10_nextOf 0 = .ok (.iload_n 1, 1) := by decide +kernel
theorem dX10_nextOf_1 : decode cX10_nextOf 1 = .ok (.iconst 1, 1) := by decide +kernel
theorem dX10_nextOf_2 : decode cX10_nextOf 2 = .ok (.isub, 1) := by decide +kernel
theorem dX10_nextOf_3 : decode cX10_nextOf 3 = .ok (.istore_n 2, 1) := by decide +kernel
theorem dX10_nextOf_4 : decode cX10_nextOf 4 = .ok (.iload_n 2, 1) := by decide +kernel
theorem dX10_nextOf_5 : decode cX10_nextOf 5 = .ok (.ifCond .lt 26, 3) := by decide +kernel
theorem dX10_nextOf_8 : decode cX10_nextOf 8 = .ok (.aload_n 0, 1) := by decide +kernel
theorem dX10_nextOf_9 : decode cX10_nextOf 9 = .ok (.getfield 56, 3) := by decide +kernel
theorem dX10_nextOf_12 : decode cX10_nextOf 12 = .ok (.iload_n 2, 1) := by decide +kernel
theorem dX10_nextOf_13 : decode cX10_nextOf 13 = .ok (.iaload, 1) := by decide +kernel
theorem dX10_nextOf_14 : decode cX10_nextOf 14 = .ok (.aload_n 0, 1) := by decide +kernel
theorem dX10_nextOf_15 : decode cX10_nextOf 15 = .ok (.getfield 267, 3) := by decide +kernel
theorem dX10_nextOf_18 : decode cX10_nextOf 18 = .ok (.iload_n 1, 1) := by decide +kernel
theorem dX10_nextOf_19 : decode cX10_nextOf 19 = .ok (.isub, 1) := by decide +kernel
theorem dX10_nextOf_20 : decode cX10_nextOf 20 = .ok (.iload_n 2, 1) := by decide +kernel
theorem dX10_nextOf_21 : decode cX10_nextOf 21 = .ok (.iadd, 1) := by decide +kernel
theorem dX10_nextOf_22 : decode cX10_nextOf 22 = .ok (.if_icmp .ne 9, 3) := by decide +kernel
theorem dX10_nextOf_25 : decode cX10_nextOf 25 = .ok (.iinc 2 (-1), 3) := by decide +kernel
theorem dX10_nextOf_28 : decode cX10_nextOf 28 = .ok (.goto (-24), 3) := by decide +kernel
theorem dX10_nextOf_31 : decode cX10_nextOf 31 = .ok (.iload_n 2, 1) := by decide +kernel
theorem dX10_nextOf_32 : decode cX10_nextOf 32 = .ok (.ifCond .ge 5, 3) := by decide +kernel
theorem dX10_nextOf_35 : decode cX10_nextOf 35 = .ok (.iconst 0, 1) := by decide +kernel
theorem dX10_nextOf_36 : decode cX10_nextOf 36 = .ok (.ireturn, 1) := by decide +kernel
theorem dX10_nextOf_37 : decode cX10_nextOf 37 = .ok (.aload_n 0, 1) := by decide +kernel
theorem dX10_nextOf_38 : decode cX10_nextOf 38 = .ok (.getfield 56, 3) := by decide +kernel
theorem dX10_nextOf_41 : decode cX10_nextOf 41 = .ok (.iload_n 2, 1) := by decide +kernel
theorem dX10_nextOf_42 : decode cX10_nextOf 42 = .ok (.dup2, 1) := by decide +kernel
theorem dX10_nextOf_43 : decode cX10_nextOf 43 = .ok (.iaload, 1) := by decide +kernel
theorem dX10_nextOf_44 : decode cX10_nextOf 44 = .ok (.iconst 1, 1) := by decide +kernel
theorem dX10_nextOf_45 : decode cX10_nextOf 45 = .ok (.iadd, 1) := by decide +kernel
theorem dX10_nextOf_46 : decode cX10_nextOf 46 = .ok (.iastore, 1) := by decide +kernel
theorem dX10_nextOf_47 : decode cX10_nextOf 47 = .ok (.iload_n 2, 1) := by decide +kernel
theorem dX10_nextOf_48 : decode cX10_nextOf 48 = .ok (.iconst 1, 1) := by decide +kernel
theorem dX10_nextOf_49 : decode cX10_nextOf 49 = .ok (.iadd, 1) := by decide +kernel
theorem dX10_nextOf_50 : decode cX10_nextOf 50 = .ok (.istore_n 3, 1) := by decide +kernel
theorem dX10_nextOf_51 : decode cX10_nextOf 51 = .ok (.iload_n 3, 1) := by decide +kernel
theorem dX10_nextOf_52 : decode cX10_nextOf 52 = .ok (.iload_n 1, 1) := by decide +kernel
theorem dX10_nextOf_53 : decode cX10_nextOf 53 = .ok (.if_icmp .ge 25, 3) := by decide +kernel
theorem dX10_nextOf_56 : decode cX10_nextOf 56 = .ok (.aload_n 0, 1) := by decide +kernel
theorem dX10_nextOf_57 : decode cX10_nextOf 57 = .ok (.getfield 56, 3) := by decide +kernel
theorem dX10_nextOf_60 : decode cX10_nextOf 60 = .ok (.iload_n 3, 1) := by decide +kernel
theorem dX10_nextOf_61 : decode cX10_nextOf 61 = .ok (.aload_n 0, 1) := by decide +kernel
theorem dX10_nextOf_62 : decode cX10_nextOf 62 = .ok (.getfield 56, 3) := by decide +kernel
theorem dX10_nextOf_65 : decode cX10_nextOf 65 = .ok (.iload_n 3, 1) := by decide +kernel
theorem dX10_nextOf_66 : decode cX10_nextOf 66 = .ok (.iconst 1, 1) := by decide +kernel
theorem dX10_nextOf_67 : decode cX10_nextOf 67 = .ok (.isub, 1) := by decide +kernel
theorem dX10_nextOf_68 : decode cX10_nextOf 68 = .ok (.iaload, 1) := by decide +kernel
theorem dX10_nextOf_69 : decode cX10_nextOf 69 = .ok (.iconst 1, 1) := by decide +kernel
theorem dX10_nextOf_70 : decode cX10_nextOf 70 = .ok (.iadd, 1) := by decide +kernel
theorem dX10_nextOf_71 : decode cX10_nextOf 71 = .ok (.iastore, 1) := by decide +kernel
theorem dX10_nextOf_72 : decode cX10_nextOf 72 = .ok (.iinc 3 1, 3) := by decide +kernel
theorem dX10_nextOf_75 : decode cX10_nextOf 75 = .ok (.goto (-24), 3) := by decide +kernel
theorem dX10_nextOf_78 : decode cX10_nextOf 78 = .ok (.iconst 1, 1) := by decide +kernel
theorem dX10_nextOf_79 : decode cX10_nextOf 79 = .ok (.ireturn, 1) := by decide +kernel
theorem dX10_allOutside_0 : decode cX10_allOutside 0 = .ok (.iconst 0, 1) := by decide +kernel
theorem dX10_allOutside_1 : decode cX10_allOutside 1 = .ok (.istore_n 1, 1) := by decide +kernel
theorem dX10_allOutside_2 : decode cX10_allOutside 2 = .ok (.iconst 0, 1) := by decide +kernel
theorem dX10_allOutside_3 : decode cX10_allOutside 3 = .ok (.istore_n 2, 1) := by decide +kernel
theorem dX10_allOutside_4 : decode cX10_allOutside 4 = .ok (.iload_n 2, 1) := by decide +kernel
theorem dX10_allOutside_5 : decode cX10_allOutside 5 = .ok (.aload_n 0, 1) := by decide +kernel
theorem dX10_allOutside_6 : decode cX10_allOutside 6 = .ok (.getfield 123, 3) := by decide +kernel
theorem dX10_allOutside_9 : decode cX10_allOutside 9 = .ok (.if_icmp .ge 15, 3) := by decide +kernel
theorem dX10_allOutside_12 : decode cX10_allOutside 12 = .ok (.iload_n 1, 1) := by decide +kernel
theorem dX10_allOutside_13 : decode cX10_allOutside 13 = .ok (.iconst 1, 1) := by decide +kernel
theorem dX10_allOutside_14 : decode cX10_allOutside 14 = .ok (.iload_n 2, 1) := by decide +kernel
theorem dX10_allOutside_15 : decode cX10_allOutside 15 = .ok (.ishl, 1) := by decide +kernel
theorem dX10_allOutside_16 : decode cX10_allOutside 16 = .ok (.ior, 1) := by decide +kernel
theorem dX10_allOutside_17 : decode cX10_allOutside 17 = .ok (.istore_n 1, 1) := by decide +kernel
theorem dX10_allOutside_18 : decode cX10_allOutside 18 = .ok (.iinc 2 1, 3) := by decide +kernel
theorem dX10_allOutside_21 : decode cX10_allOutside 21 = .ok (.goto (-17), 3) := by decide +kernel
theorem dX10_allOutside_24 : decode cX10_allOutside 24 = .ok (.iload_n 1, 1) := by decide +kernel
theorem dX10_allOutside_25 : decode cX10_allOutside 25 = .ok (.aload_n 0, 1) := by decide +kernel
theorem dX10_allOutside_26 : decode cX10_allOutside 26 = .ok (.getfield 7, 3) := by decide +kernel
theorem dX10_allOutside_29 : decode cX10_allOutside 29 = .ok (.iconst 0, 1) := by decide +kernel
theorem dX10_allOutside_30 : decode cX10_allOutside 30 = .ok (.iaload, 1) := by decide +kernel
theorem dX10_allOutside_31 : decode cX10_allOutside 31 = .ok (.iconst (-1), 1) := by decide +kernel
theorem dX10_allOutside_32 : decode cX10_allOutside 32 = .ok (.ixor, 1) := by decide +kernel
theorem dX10_allOutside_33 : decode cX10_allOutside 33 = .ok (.iand, 1) := by decide +kernel
theorem dX10_allOutside_34 : decode cX10_allOutside 34 = .ok (.ireturn, 1) := by decide +kernel
theorem dX10_between_0 : decode cX10_between 0 = .ok (.iload_n 1, 1) := by decide +kernel
theorem dX10_between_1 : decode cX10_between 1 = .ok (.i2l, 1) := by decide +kernel
theorem dX10_between_2 : decode cX10_between 2 = .ok (.lconst 0, 1) := by decide +kernel
theorem dX10_between_3 : decode cX10_between 3 = .ok (.ldc2_w 270, 3) := by decide +kernel
theorem dX10_between_6 : decode cX10_between 6 = .ok (.invokestatic 134, 3) := by decide +kernel
theorem dX10_between_9 : decode cX10_between 9 = .ok (.ifCond .ne 5, 3) := by decide +kernel
theorem dX10_between_12 : decode cX10_between 12 = .ok (.iconst (-1), 1) := by decide +kernel
theorem dX10_between_13 : decode cX10_between 13 = .ok (.ireturn, 1) := by decide +kernel
theorem dX10_between_14 : decode cX10_between 14 = .ok (.aload_n 0, 1) := by decide +kernel
theorem dX10_between_15 : decode cX10_between 15 = .ok (.aload_n 0, 1) := by decide +kernel
theorem dX10_between_16 : decode cX10_between 16 = .ok (.getfield 7, 3) := by decide +kernel
theorem dX10_between_19 : decode cX10_between 19 = .ok (.iconst 0, 1) := by decide +kernel
theorem dX10_between_20 : decode cX10_between 20 = .ok (.iaload, 1) := by decide +kernel
theorem dX10_between_21 : decode cX10_between 21 = .ok (.invokevirtual 272, 3) := by decide +kernel
theorem dX10_between_24 : decode cX10_between 24 = .ok (.aload_n 0, 1) := by decide +kernel
theorem dX10_between_25 : decode cX10_between 25 = .ok (.getfield 267, 3) := by decide +kernel
theorem dX10_between_28 : decode cX10_between 28 = .ok (.iload_n 1, 1) := by decide +kernel
theorem dX10_between_29 : decode cX10_between 29 = .ok (.if_icmp .ge 6, 3) := by decide +kernel
theorem dX10_between_32 : decode cX10_between 32 = .ok (.bipush (-4), 2) := by decide +kernel
theorem dX10_between_34 : decode cX10_between 34 = .ok (.ireturn, 1) := by decide +kernel
theorem dX10_between_35 : decode cX10_between 35 = .ok (.iconst 0, 1) := by decide +kernel
theorem dX10_between_36 : decode cX10_between 36 = .ok (.istore_n 2, 1) := by decide +kernel
theorem dX10_between_37 : decode cX10_between 37 = .ok (.aload_n 0, 1) := by decide +kernel
theorem dX10_between_38 : decode cX10_between 38 = .ok (.iload_n 1, 1) := by decide +kernel
theorem dX10_between_39 : decode cX10_between 39 = .ok (.invokevirtual 275, 3) := by decide +kernel
theorem dX10_between_42 : decode cX10_between 42 = .ok (.iconst 1, 1) := by decide +kernel
theorem dX10_between_43 : decode cX10_between 43 = .ok (.istore_n 3, 1) := by decide +kernel
theorem dX10_between_44 : decode cX10_between 44 = .ok (.iload_n 3, 1) := by decide +kernel
theorem dX10_between_45 : decode cX10_between 45 = .ok (.ifCond .eq 35, 3) := by decide +kernel
theorem dX10_between_48 : decode cX10_between 48 = .ok (.iload_n 2, 1) := by decide +kernel
theorem dX10_between_49 : decode cX10_between 49 = .ok (.iconst 1, 1) := by decide +kernel
theorem dX10_between_50 : decode cX10_between 50 = .ok (.aload_n 0, 1) := by decide +kernel
theorem dX10_between_51 : decode cX10_between 51 = .ok (.aload_n 0, 1) := by decide +kernel
theorem dX10_between_52 : decode cX10_between 52 = .ok (.getfield 7, 3) := by decide +kernel
theorem dX10_between_55 : decode cX10_between 55 = .ok (.iconst 0, 1) := by decide +kernel
theorem dX10_between_56 : decode cX10_between 56 = .ok (.iaload, 1) := by decide +kernel
theorem dX10_between_57 : decode cX10_between 57 = .ok (.aload_n 0, 1) := by decide +kernel
theorem dX10_between_58 : decode cX10_between 58 = .ok (.iload_n 1, 1) := by decide +kernel
theorem dX10_between_59 : decode cX10_between 59 = .ok (.invokevirtual 278, 3) := by decide +kernel
theorem dX10_between_62 : decode cX10_between 62 = .ok (.iconst (-1), 1) := by decide +kernel
theorem dX10_between_63 : decode cX10_between 63 = .ok (.ixor, 1) := by decide +kernel
theorem dX10_between_64 : decode cX10_between 64 = .ok (.iand, 1) := by decide +kernel
theorem dX10_between_65 : decode cX10_between 65 = .ok (.invokevirtual 221, 3) := by decide +kernel
theorem dX10_between_68 : decode cX10_between 68 = .ok (.ishl, 1) := by decide +kernel
theorem dX10_between_69 : decode cX10_between 69 = .ok (.ior, 1) := by decide +kernel
theorem dX10_between_70 : decode cX10_between 70 = .ok (.istore_n 2, 1) := by decide +kernel
theorem dX10_between_71 : decode cX10_between 71 = .ok (.aload_n 0, 1) := by decide +kernel
theorem dX10_between_72 : decode cX10_between 72 = .ok (.iload_n 1, 1) := by decide +kernel
theorem dX10_between_73 : decode cX10_between 73 = .ok (.invokevirtual 281, 3) := by decide +kernel
theorem dX10_between_76 : decode cX10_between 76 = .ok (.istore_n 3, 1) := by decide +kernel
theorem dX10_between_77 : decode cX10_between 77 = .ok (.goto (-33), 3) := by decide +kernel
theorem dX10_between_80 : decode cX10_between 80 = .ok (.iload_n 2, 1) := by decide +kernel
theorem dX10_between_81 : decode cX10_between 81 = .ok (.ireturn, 1) := by decide +kernel
theorem dX10_startsGather_0 : decode cX10_startsGather 0 = .ok (.aload_n 0, 1) := by decide +kernel
theorem dX10_startsGather_1 : decode cX10_startsGather 1 = .ok (.iconst 0, 1) := by decide +kernel
theorem dX10_startsGather_2 : decode cX10_startsGather 2 = .ok (.putfield 284, 3) := by decide +kernel
theorem dX10_startsGather_5 : decode cX10_startsGather 5 = .ok (.aload_n 0, 1) := by decide +kernel
theorem dX10_startsGather_6 : decode cX10_startsGather 6 = .ok (.bipush (-4), 2) := by decide +kernel
theorem dX10_startsGather_8 : decode cX10_startsGather 8 = .ok (.putfield 287, 3) := by decide +kernel
theorem dX10_startsGather_11 : decode cX10_startsGather 11 = .ok (.aload_n 0, 1) := by decide +kernel
theorem dX10_startsGather_12 : decode cX10_startsGather 12 = .ok (.iconst 0, 1) := by decide +kernel
theorem dX10_startsGather_13 : decode cX10_startsGather 13 = .ok (.putfield 290, 3) := by decide +kernel
theorem dX10_startsGather_16 : decode cX10_startsGather 16 = .ok (.return_, 1) := by decide +kernel
theorem dX10_gathers_0 : decode cX10_gathers 0 = .ok (.aload_n 0, 1) := by decide +kernel
theorem dX10_gathers_1 : decode cX10_gathers 1 = .ok (.aload_n 0, 1) := by decide +kernel
theorem dX10_gathers_2 : decode cX10_gathers 2 = .ok (.getfield 284, 3) := by decide +kernel
theorem dX10_gathers_5 : decode cX10_gathers 5 = .ok (.ifCond .eq 11, 3) := by decide +kernel
theorem dX10_gathers_8 : decode cX10_gathers 8 = .ok (.iload_n 1, 1) := by decide +kernel
theorem dX10_gathers_9 : decode cX10_gathers 9 = .ok (.aload_n 0, 1) := by decide +kernel
theorem dX10_gathers_10 : decode cX10_gathers 10 = .ok (.getfield 287, 3) := by decide +kernel
theorem dX10_gathers_13 : decode cX10_gathers 13 = .ok (.if_icmp .ge 7, 3) := by decide +kernel
theorem dX10_gathers_16 : decode cX10_gathers 16 = .ok (.iload_n 1, 1) := by decide +kernel
theorem dX10_gathers_17 : decode cX10_gathers 17 = .ok (.goto 7, 3) := by decide +kernel
theorem dX10_gathers_20 : decode cX10_gathers 20 = .ok (.aload_n 0, 1) := by decide +kernel
theorem dX10_gathers_21 : decode cX10_gathers 21 = .ok (.getfield 287, 3) := by decide +kernel
theorem dX10_gathers_24 : decode cX10_gathers 24 = .ok (.putfield 287, 3) := by decide +kernel
theorem dX10_gathers_27 : decode cX10_gathers 27 = .ok (.aload_n 0, 1) := by decide +kernel
theorem dX10_gathers_28 : decode cX10_gathers 28 = .ok (.aload_n 0, 1) := by decide +kernel
theorem dX10_gathers_29 : decode cX10_gathers 29 = .ok (.getfield 284, 3) := by decide +kernel
theorem dX10_gathers_32 : decode cX10_gathers 32 = .ok (.ifCond .ne 7, 3) := by decide +kernel
theorem dX10_gathers_35 : decode cX10_gathers 35 = .ok (.iload_n 1, 1) := by decide +kernel
theorem dX10_gathers_36 : decode cX10_gathers 36 = .ok (.goto 9, 3) := by decide +kernel
theorem dX10_gathers_39 : decode cX10_gathers 39 = .ok (.aload_n 0, 1) := by decide +kernel
theorem dX10_gathers_40 : decode cX10_gathers 40 = .ok (.getfield 290, 3) := by decide +kernel
theorem dX10_gathers_43 : decode cX10_gathers 43 = .ok (.iload_n 1, 1) := by decide +kernel
theorem dX10_gathers_44 : decode cX10_gathers 44 = .ok (.iand, 1) := by decide +kernel
theorem dX10_gathers_45 : decode cX10_gathers 45 = .ok (.putfield 290, 3) := by decide +kernel
theorem dX10_gathers_48 : decode cX10_gathers 48 = .ok (.aload_n 0, 1) := by decide +kernel
theorem dX10_gathers_49 : decode cX10_gathers 49 = .ok (.dup, 1) := by decide +kernel
theorem dX10_gathers_50 : decode cX10_gathers 50 = .ok (.getfield 284, 3) := by decide +kernel
theorem dX10_gathers_53 : decode cX10_gathers 53 = .ok (.iconst 1, 1) := by decide +kernel
theorem dX10_gathers_54 : decode cX10_gathers 54 = .ok (.iadd, 1) := by decide +kernel
theorem dX10_gathers_55 : decode cX10_gathers 55 = .ok (.putfield 284, 3) := by decide +kernel
theorem dX10_gathers_58 : decode cX10_gathers 58 = .ok (.return_, 1) := by decide +kernel
theorem dX10_just_0 : decode cX10_just 0 = .ok (.iload_n 1, 1) := by decide +kernel
theorem dX10_just_1 : decode cX10_just 1 = .ok (.i2l, 1) := by decide +kernel
theorem dX10_just_2 : decode cX10_just 2 = .ok (.lconst 0, 1) := by decide +kernel
theorem dX10_just_3 : decode cX10_just 3 = .ok (.ldc2_w 270, 3) := by decide +kernel
theorem dX10_just_6 : decode cX10_just 6 = .ok (.invokestatic 134, 3) := by decide +kernel
theorem dX10_just_9 : decode cX10_just 9 = .ok (.ifCond .eq 25, 3) := by decide +kernel
theorem dX10_just_12 : decode cX10_just 12 = .ok (.iload_n 2, 1) := by decide +kernel
theorem dX10_just_13 : decode cX10_just 13 = .ok (.i2l, 1) := by decide +kernel
theorem dX10_just_14 : decode cX10_just 14 = .ok (.lconst 0, 1) := by decide +kernel
theorem dX10_just_15 : decode cX10_just 15 = .ok (.ldc2_w 293, 3) := by decide +kernel
theorem dX10_just_18 : decode cX10_just 18 = .ok (.invokestatic 134, 3) := by decide +kernel
theorem dX10_just_21 : decode cX10_just 21 = .ok (.ifCond .eq 13, 3) := by decide +kernel
theorem dX10_just_24 : decode cX10_just 24 = .ok (.iload_n 3, 1) := by decide +kernel
theorem dX10_just_25 : decode cX10_just 25 = .ok (.i2l, 1) := by decide +kernel
theorem dX10_just_26 : decode cX10_just 26 = .ok (.lconst 0, 1) := by decide +kernel
theorem dX10_just_27 : decode cX10_just 27 = .ok (.lconst 1, 1) := by decide +kernel
theorem dX10_just_28 : decode cX10_just 28 = .ok (.invokestatic 134, 3) := by decide +kernel
theorem dX10_just_31 : decode cX10_just 31 = .ok (.ifCond .ne 5, 3) := by decide +kernel
theorem dX10_just_34 : decode cX10_just 34 = .ok (.iconst (-1), 1) := by decide +kernel
theorem dX10_just_35 : decode cX10_just 35 = .ok (.ireturn, 1) := by decide +kernel
theorem dX10_just_36 : decode cX10_just 36 = .ok (.aload_n 0, 1) := by decide +kernel
theorem dX10_just_37 : decode cX10_just 37 = .ok (.aload_n 0, 1) := by decide +kernel
theorem dX10_just_38 : decode cX10_just 38 = .ok (.getfield 7, 3) := by decide +kernel
theorem dX10_just_41 : decode cX10_just 41 = .ok (.iconst 0, 1) := by decide +kernel
theorem dX10_just_42 : decode cX10_just 42 = .ok (.iaload, 1) := by decide +kernel
theorem dX10_just_43 : decode cX10_just 43 = .ok (.invokevirtual 272, 3) := by decide +kernel
theorem dX10_just_46 : decode cX10_just 46 = .ok (.aload_n 0, 1) := by decide +kernel
theorem dX10_just_47 : decode cX10_just 47 = .ok (.invokevirtual 295, 3) := by decide +kernel
theorem dX10_just_50 : decode cX10_just 50 = .ok (.aload_n 0, 1) := by decide +kernel
theorem dX10_just_51 : decode cX10_just 51 = .ok (.iload_n 1, 1) := by decide +kernel
theorem dX10_just_52 : decode cX10_just 52 = .ok (.invokevirtual 275, 3) := by decide +kernel
theorem dX10_just_55 : decode cX10_just 55 = .ok (.aload_n 0, 1) := by decide +kernel
theorem dX10_just_56 : decode cX10_just 56 = .ok (.getfield 267, 3) := by decide +kernel
theorem dX10_just_59 : decode cX10_just 59 = .ok (.iload_n 1, 1) := by decide +kernel
theorem dX10_just_60 : decode cX10_just 60 = .ok (.if_icmp .lt 7, 3) := by decide +kernel
theorem dX10_just_63 : decode cX10_just 63 = .ok (.iconst 1, 1) := by decide +kernel
theorem dX10_just_64 : decode cX10_just 64 = .ok (.goto 4, 3) := by decide +kernel
theorem dX10_just_67 : decode cX10_just 67 = .ok (.iconst 0, 1) := by decide +kernel
theorem dX10_just_68 : decode cX10_just 68 = .ok (.istore 4, 2) := by decide +kernel
theorem dX10_just_70 : decode cX10_just 70 = .ok (.iload 4, 2) := by decide +kernel
theorem dX10_just_72 : decode cX10_just 72 = .ok (.ifCond .eq 45, 3) := by decide +kernel
theorem dX10_just_75 : decode cX10_just 75 = .ok (.aload_n 0, 1) := by decide +kernel
theorem dX10_just_76 : decode cX10_just 76 = .ok (.iload_n 1, 1) := by decide +kernel
theorem dX10_just_77 : decode cX10_just 77 = .ok (.invokevirtual 278, 3) := by decide +kernel
theorem dX10_just_80 : decode cX10_just 80 = .ok (.istore 5, 2) := by decide +kernel
theorem dX10_just_82 : decode cX10_just 82 = .ok (.aload_n 0, 1) := by decide +kernel
theorem dX10_just_83 : decode cX10_just 83 = .ok (.aload_n 0, 1) := by decide +kernel
theorem dX10_just_84 : decode cX10_just 84 = .ok (.getfield 7, 3) := by decide +kernel
theorem dX10_just_87 : decode cX10_just 87 = .ok (.iconst 0, 1) := by decide +kernel
theorem dX10_just_88 : decode cX10_just 88 = .ok (.iaload, 1) := by decide +kernel
theorem dX10_just_89 : decode cX10_just 89 = .ok (.iload 5, 2) := by decide +kernel
theorem dX10_just_91 : decode cX10_just 91 = .ok (.iconst (-1), 1) := by decide +kernel
theorem dX10_just_92 : decode cX10_just 92 = .ok (.ixor, 1) := by decide +kernel
theorem dX10_just_93 : decode cX10_just 93 = .ok (.iand, 1) := by decide +kernel
theorem dX10_just_94 : decode cX10_just 94 = .ok (.invokevirtual 221, 3) := by decide +kernel
theorem dX10_just_97 : decode cX10_just 97 = .ok (.iload_n 2, 1) := by decide +kernel
theorem dX10_just_98 : decode cX10_just 98 = .ok (.if_icmp .ne 9, 3) := by decide +kernel
theorem dX10_just_101 : decode cX10_just 101 = .ok (.aload_n 0, 1) := by decide +kernel
theorem dX10_just_102 : decode cX10_just 102 = .ok (.iload 5, 2) := by decide +kernel
theorem dX10_just_104 : decode cX10_just 104 = .ok (.invokevirtual 298, 3) := by decide +kernel
theorem dX10_just_107 : decode cX10_just 107 = .ok (.aload_n 0, 1) := by decide +kernel
theorem dX10_just_108 : decode cX10_just 108 = .ok (.iload_n 1, 1) := by decide +kernel
theorem dX10_just_109 : decode cX10_just 109 = .ok (.invokevirtual 281, 3) := by decide +kernel
theorem dX10_just_112 : decode cX10_just 112 = .ok (.istore 4, 2) := by decide +kernel
theorem dX10_just_114 : decode cX10_just 114 = .ok (.goto (-44), 3) := by decide +kernel
theorem dX10_just_117 : decode cX10_just 117 = .ok (.iload_n 3, 1) := by decide +kernel
theorem dX10_just_118 : decode cX10_just 118 = .ok (.ifCond .ne 10, 3) := by decide +kernel
theorem dX10_just_121 : decode cX10_just 121 = .ok (.aload_n 0, 1) := by decide +kernel
theorem dX10_just_122 : decode cX10_just 122 = .ok (.getfield 284, 3) := by decide +kernel
theorem dX10_just_125 : decode cX10_just 125 = .ok (.goto 7, 3) := by decide +kernel
theorem dX10_just_128 : decode cX10_just 128 = .ok (.aload_n 0, 1) := by decide +kernel
theorem dX10_just_129 : decode cX10_just 129 = .ok (.getfield 287, 3) := by decide +kernel
theorem dX10_just_132 : decode cX10_just 132 = .ok (.ireturn, 1) := by decide +kernel
theorem dX10_riddle_0 : decode cX10_riddle 0 = .ok (.iload_n 1, 1) := by decide +kernel
theorem dX10_riddle_1 : decode cX10_riddle 1 = .ok (.i2l, 1) := by decide +kernel
theorem dX10_riddle_2 : decode cX10_riddle 2 = .ok (.lconst 1, 1) := by decide +kernel
theorem dX10_riddle_3 : decode cX10_riddle 3 = .ok (.ldc2_w 249, 3) := by decide +kernel
theorem dX10_riddle_6 : decode cX10_riddle 6 = .ok (.invokestatic 134, 3) := by decide +kernel
theorem dX10_riddle_9 : decode cX10_riddle 9 = .ok (.ifCond .eq 27, 3) := by decide +kernel
theorem dX10_riddle_12 : decode cX10_riddle 12 = .ok (.iload_n 2, 1) := by decide +kernel
theorem dX10_riddle_13 : decode cX10_riddle 13 = .ok (.i2l, 1) := by decide +kernel
theorem dX10_riddle_14 : decode cX10_riddle 14 = .ok (.lconst 0, 1) := by decide +kernel
theorem dX10_riddle_15 : decode cX10_riddle 15 = .ok (.ldc2_w 293, 3) := by decide +kernel
theorem dX10_riddle_18 : decode cX10_riddle 18 = .ok (.invokestatic 134, 3) := by decide +kernel
theorem dX10_riddle_21 : decode cX10_riddle 21 = .ok (.ifCond .eq 15, 3) := by decide +kernel
theorem dX10_riddle_24 : decode cX10_riddle 24 = .ok (.iload_n 3, 1) := by decide +kernel
theorem dX10_riddle_25 : decode cX10_riddle 25 = .ok (.i2l, 1) := by decide +kernel
theorem dX10_riddle_26 : decode cX10_riddle 26 = .ok (.lconst 0, 1) := by decide +kernel
theorem dX10_riddle_27 : decode cX10_riddle 27 = .ok (.ldc2_w 249, 3) := by decide +kernel
theorem dX10_riddle_30 : decode cX10_riddle 30 = .ok (.invokestatic 134, 3) := by decide +kernel
theorem dX10_riddle_33 : decode cX10_riddle 33 = .ok (.ifCond .ne 5, 3) := by decide +kernel
theorem dX10_riddle_36 : decode cX10_riddle 36 = .ok (.iconst (-1), 1) := by decide +kernel
theorem dX10_riddle_37 : decode cX10_riddle 37 = .ok (.ireturn, 1) := by decide +kernel
theorem dX10_riddle_38 : decode cX10_riddle 38 = .ok (.aload_n 0, 1) := by decide +kernel
theorem dX10_riddle_39 : decode cX10_riddle 39 = .ok (.aload_n 0, 1) := by decide +kernel
theorem dX10_riddle_40 : decode cX10_riddle 40 = .ok (.getfield 7, 3) := by decide +kernel
theorem dX10_riddle_43 : decode cX10_riddle 43 = .ok (.iconst 0, 1) := by decide +kernel
theorem dX10_riddle_44 : decode cX10_riddle 44 = .ok (.iaload, 1) := by decide +kernel
theorem dX10_riddle_45 : decode cX10_riddle 45 = .ok (.invokevirtual 272, 3) := by decide +kernel
theorem dX10_riddle_48 : decode cX10_riddle 48 = .ok (.iconst 0, 1) := by decide +kernel
theorem dX10_riddle_49 : decode cX10_riddle 49 = .ok (.istore 4, 2) := by decide +kernel
theorem dX10_riddle_51 : decode cX10_riddle 51 = .ok (.aload_n 0, 1) := by decide +kernel
theorem dX10_riddle_52 : decode cX10_riddle 52 = .ok (.iload_n 1, 1) := by decide +kernel
theorem dX10_riddle_53 : decode cX10_riddle 53 = .ok (.invokevirtual 275, 3) := by decide +kernel
theorem dX10_riddle_56 : decode cX10_riddle 56 = .ok (.aload_n 0, 1) := by decide +kernel
theorem dX10_riddle_57 : decode cX10_riddle 57 = .ok (.getfield 267, 3) := by decide +kernel
theorem dX10_riddle_60 : decode cX10_riddle 60 = .ok (.iload_n 1, 1) := by decide +kernel
theorem dX10_riddle_61 : decode cX10_riddle 61 = .ok (.if_icmp .lt 7, 3) := by decide +kernel
theorem dX10_riddle_64 : decode cX10_riddle 64 = .ok (.iconst 1, 1) := by decide +kernel
theorem dX10_riddle_65 : decode cX10_riddle 65 = .ok (.goto 4, 3) := by decide +kernel
theorem dX10_riddle_68 : decode cX10_riddle 68 = .ok (.iconst 0, 1) := by decide +kernel
theorem dX10_riddle_69 : decode cX10_riddle 69 = .ok (.istore 5, 2) := by decide +kernel
theorem dX10_riddle_71 : decode cX10_riddle 71 = .ok (.iload 5, 2) := by decide +kernel
theorem dX10_riddle_73 : decode cX10_riddle 73 = .ok (.ifCond .eq 28, 3) := by decide +kernel
theorem dX10_riddle_76 : decode cX10_riddle 76 = .ok (.aload_n 0, 1) := by decide +kernel
theorem dX10_riddle_77 : decode cX10_riddle 77 = .ok (.getfield 59, 3) := by decide +kernel
theorem dX10_riddle_80 : decode cX10_riddle 80 = .ok (.iload 4, 2) := by decide +kernel
theorem dX10_riddle_82 : decode cX10_riddle 82 = .ok (.aload_n 0, 1) := by decide +kernel
theorem dX10_riddle_83 : decode cX10_riddle 83 = .ok (.iload_n 1, 1) := by decide +kernel
theorem dX10_riddle_84 : decode cX10_riddle 84 = .ok (.invokevirtual 278, 3) := by decide +kernel
theorem dX10_riddle_87 : decode cX10_riddle 87 = .ok (.iastore, 1) := by decide +kernel
theorem dX10_riddle_88 : decode cX10_riddle 88 = .ok (.iinc 4 1, 3) := by decide +kernel
theorem dX10_riddle_91 : decode cX10_riddle 91 = .ok (.aload_n 0, 1) := by decide +kernel
theorem dX10_riddle_92 : decode cX10_riddle 92 = .ok (.iload_n 1, 1) := by decide +kernel
theorem dX10_riddle_93 : decode cX10_riddle 93 = .ok (.invokevirtual 281, 3) := by decide +kernel
theorem dX10_riddle_96 : decode cX10_riddle 96 = .ok (.istore 5, 2) := by decide +kernel
theorem dX10_riddle_98 : decode cX10_riddle 98 = .ok (.goto (-27), 3) := by decide +kernel
theorem dX10_riddle_101 : decode cX10_riddle 101 = .ok (.aload_n 0, 1) := by decide +kernel
theorem dX10_riddle_102 : decode cX10_riddle 102 = .ok (.aload_n 0, 1) := by decide +kernel
theorem dX10_riddle_103 : decode cX10_riddle 103 = .ok (.invokevirtual 301, 3) := by decide +kernel
theorem dX10_riddle_106 : decode cX10_riddle 106 = .ok (.invokevirtual 272, 3) := by decide +kernel
theorem dX10_riddle_109 : decode cX10_riddle 109 = .ok (.iconst 0, 1) := by decide +kernel
theorem dX10_riddle_110 : decode cX10_riddle 110 = .ok (.istore 6, 2) := by decide +kernel
theorem dX10_riddle_112 : decode cX10_riddle 112 = .ok (.bipush (-4), 2) := by decide +kernel
theorem dX10_riddle_114 : decode cX10_riddle 114 = .ok (.istore 7, 2) := by decide +kernel
theorem dX10_riddle_116 : decode cX10_riddle 116 = .ok (.bipush (-4), 2) := by decide +kernel
theorem dX10_riddle_118 : decode cX10_riddle 118 = .ok (.istore 8, 2) := by decide +kernel
theorem dX10_riddle_120 : decode cX10_riddle 120 = .ok (.iconst 0, 1) := by decide +kernel
theorem dX10_riddle_121 : decode cX10_riddle 121 = .ok (.istore 9, 2) := by decide +kernel
theorem dX10_riddle_123 : decode cX10_riddle 123 = .ok (.iload 9, 2) := by decide +kernel
theorem dX10_riddle_125 : decode cX10_riddle 125 = .ok (.iload 4, 2) := by decide +kernel
theorem dX10_riddle_127 : decode cX10_riddle 127 = .ok (.if_icmp .ge 157, 3) := by decide +kernel
theorem dX10_riddle_130 : decode cX10_riddle 130 = .ok (.aload_n 0, 1) := by decide +kernel
theorem dX10_riddle_131 : decode cX10_riddle 131 = .ok (.iload_n 1, 1) := by decide +kernel
theorem dX10_riddle_132 : decode cX10_riddle 132 = .ok (.invokevirtual 275, 3) := by decide +kernel
theorem dX10_riddle_135 : decode cX10_riddle 135 = .ok (.aload_n 0, 1) := by decide +kernel
theorem dX10_riddle_136 : decode cX10_riddle 136 = .ok (.getfield 267, 3) := by decide +kernel
theorem dX10_riddle_139 : decode cX10_riddle 139 = .ok (.iload_n 1, 1) := by decide +kernel
theorem dX10_riddle_140 : decode cX10_riddle 140 = .ok (.if_icmp .lt 7, 3) := by decide +kernel
theorem dX10_riddle_143 : decode cX10_riddle 143 = .ok (.iconst 1, 1) := by decide +kernel
theorem dX10_riddle_144 : decode cX10_riddle 144 = .ok (.goto 4, 3) := by decide +kernel
theorem dX10_riddle_147 : decode cX10_riddle 147 = .ok (.iconst 0, 1) := by decide +kernel
theorem dX10_riddle_148 : decode cX10_riddle 148 = .ok (.istore 5, 2) := by decide +kernel
theorem dX10_riddle_150 : decode cX10_riddle 150 = .ok (.iload 5, 2) := by decide +kernel
theorem dX10_riddle_152 : decode cX10_riddle 152 = .ok (.ifCond .eq 126, 3) := by decide +kernel
theorem dX10_riddle_155 : decode cX10_riddle 155 = .ok (.aload_n 0, 1) := by decide +kernel
theorem dX10_riddle_156 : decode cX10_riddle 156 = .ok (.iload_n 1, 1) := by decide +kernel
theorem dX10_riddle_157 : decode cX10_riddle 157 = .ok (.invokevirtual 278, 3) := by decide +kernel
theorem dX10_riddle_160 : decode cX10_riddle 160 = .ok (.istore 10, 2) := by decide +kernel
theorem dX10_riddle_162 : decode cX10_riddle 162 = .ok (.aload_n 0, 1) := by decide +kernel
theorem dX10_riddle_163 : decode cX10_riddle 163 = .ok (.aload_n 0, 1) := by decide +kernel
theorem dX10_riddle_164 : decode cX10_riddle 164 = .ok (.getfield 7, 3) := by decide +kernel
theorem dX10_riddle_167 : decode cX10_riddle 167 = .ok (.iconst 0, 1) := by decide +kernel
theorem dX10_riddle_168 : decode cX10_riddle 168 = .ok (.iaload, 1) := by decide +kernel
theorem dX10_riddle_169 : decode cX10_riddle 169 = .ok (.aload_n 0, 1) := by decide +kernel
theorem dX10_riddle_170 : decode cX10_riddle 170 = .ok (.getfield 59, 3) := by decide +kernel
theorem dX10_riddle_173 : decode cX10_riddle 173 = .ok (.iload 9, 2) := by decide +kernel
theorem dX10_riddle_175 : decode cX10_riddle 175 = .ok (.iaload, 1) := by decide +kernel
theorem dX10_riddle_176 : decode cX10_riddle 176 = .ok (.iconst (-1), 1) := by decide +kernel
theorem dX10_riddle_177 : decode cX10_riddle 177 = .ok (.ixor, 1) := by decide +kernel
theorem dX10_riddle_178 : decode cX10_riddle 178 = .ok (.iand, 1) := by decide +kernel
theorem dX10_riddle_179 : decode cX10_riddle 179 = .ok (.iload 10, 2) := by decide +kernel
theorem dX10_riddle_181 : decode cX10_riddle 181 = .ok (.ior, 1) := by decide +kernel
theorem dX10_riddle_182 : decode cX10_riddle 182 = .ok (.invokevirtual 221, 3) := by decide +kernel
theorem dX10_riddle_185 : decode cX10_riddle 185 = .ok (.iload_n 2, 1) := by decide +kernel
theorem dX10_riddle_186 : decode cX10_riddle 186 = .ok (.if_icmp .ne 82, 3) := by decide +kernel
theorem dX10_riddle_189 : decode cX10_riddle 189 = .ok (.iload 6, 2) := by decide +kernel
theorem dX10_riddle_191 : decode cX10_riddle 191 = .ok (.ifCond .eq 34, 3) := by decide +kernel
theorem dX10_riddle_194 : decode cX10_riddle 194 = .ok (.aload_n 0, 1) := by decide +kernel
theorem dX10_riddle_195 : decode cX10_riddle 195 = .ok (.getfield 59, 3) := by decide +kernel
theorem dX10_riddle_198 : decode cX10_riddle 198 = .ok (.iload 9, 2) := by decide +kernel
theorem dX10_riddle_200 : decode cX10_riddle 200 = .ok (.iaload, 1) := by decide +kernel
theorem dX10_riddle_201 : decode cX10_riddle 201 = .ok (.iload 7, 2) := by decide +kernel
theorem dX10_riddle_203 : decode cX10_riddle 203 = .ok (.if_icmp .lt 22, 3) := by decide +kernel
theorem dX10_riddle_206 : decode cX10_riddle 206 = .ok (.aload_n 0, 1) := by decide +kernel
theorem dX10_riddle_207 : decode cX10_riddle 207 = .ok (.getfield 59, 3) := by decide +kernel
theorem dX10_riddle_210 : decode cX10_riddle 210 = .ok (.iload 9, 2) := by decide +kernel
theorem dX10_riddle_212 : decode cX10_riddle 212 = .ok (.iaload, 1) := by decide +kernel
theorem dX10_riddle_213 : decode cX10_riddle 213 = .ok (.iload 7, 2) := by decide +kernel
theorem dX10_riddle_215 : decode cX10_riddle 215 = .ok (.if_icmp .ne 14, 3) := by decide +kernel
theorem dX10_riddle_218 : decode cX10_riddle 218 = .ok (.iload 10, 2) := by decide +kernel
theorem dX10_riddle_220 : decode cX10_riddle 220 = .ok (.iload 8, 2) := by decide +kernel
theorem dX10_riddle_222 : decode cX10_riddle 222 = .ok (.if_icmp .ge 7, 3) := by decide +kernel
theorem dX10_riddle_225 : decode cX10_riddle 225 = .ok (.iconst 1, 1) := by decide +kernel
theorem dX10_riddle_226 : decode cX10_riddle 226 = .ok (.goto 4, 3) := by decide +kernel
theorem dX10_riddle_229 : decode cX10_riddle 229 = .ok (.iconst 0, 1) := by decide +kernel
theorem dX10_riddle_230 : decode cX10_riddle 230 = .ok (.istore 11, 2) := by decide +kernel
theorem dX10_riddle_232 : decode cX10_riddle 232 = .ok (.iload 11, 2) := by decide +kernel
theorem dX10_riddle_234 : decode cX10_riddle 234 = .ok (.ifCond .eq 13, 3) := by decide +kernel
theorem dX10_riddle_237 : decode cX10_riddle 237 = .ok (.aload_n 0, 1) := by decide +kernel
theorem dX10_riddle_238 : decode cX10_riddle 238 = .ok (.getfield 59, 3) := by decide +kernel
theorem dX10_riddle_241 : decode cX10_riddle 241 = .ok (.iload 9, 2) := by decide +kernel
theorem dX10_riddle_243 : decode cX10_riddle 243 = .ok (.iaload, 1) := by decide +kernel
theorem dX10_riddle_244 : decode cX10_riddle 244 = .ok (.goto 5, 3) := by decide +kernel
theorem dX10_riddle_247 : decode cX10_riddle 247 = .ok (.iload 7, 2) := by decide +kernel
theorem dX10_riddle_249 : decode cX10_riddle 249 = .ok (.istore 7, 2) := by decide +kernel
theorem dX10_riddle_251 : decode cX10_riddle 251 = .ok (.iload 11, 2) := by decide +kernel
theorem dX10_riddle_253 : decode cX10_riddle 253 = .ok (.ifCond .eq 8, 3) := by decide +kernel
theorem dX10_riddle_256 : decode cX10_riddle 256 = .ok (.iload 10, 2) := by decide +kernel
theorem dX10_riddle_258 : decode cX10_riddle 258 = .ok (.goto 5, 3) := by decide +kernel
theorem dX10_riddle_261 : decode cX10_riddle 261 = .ok (.iload 8, 2) := by decide +kernel
theorem dX10_riddle_263 : decode cX10_riddle 263 = .ok (.istore 8, 2) := by decide +kernel
theorem dX10_riddle_265 : decode cX10_riddle 265 = .ok (.iinc 6 1, 3) := by decide +kernel
theorem dX10_riddle_268 : decode cX10_riddle 268 = .ok (.aload_n 0, 1) := by decide +kernel
theorem dX10_riddle_269 : decode cX10_riddle 269 = .ok (.iload_n 1, 1) := by decide +kernel
theorem dX10_riddle_270 : decode cX10_riddle 270 = .ok (.invokevirtual 281, 3) := by decide +kernel
theorem dX10_riddle_273 : decode cX10_riddle 273 = .ok (.istore 5, 2) := by decide +kernel
theorem dX10_riddle_275 : decode cX10_riddle 275 = .ok (.goto (-125), 3) := by decide +kernel
theorem dX10_riddle_278 : decode cX10_riddle 278 = .ok (.iinc 9 1, 3) := by decide +kernel
theorem dX10_riddle_281 : decode cX10_riddle 281 = .ok (.goto (-158), 3) := by decide +kernel
theorem dX10_riddle_284 : decode cX10_riddle 284 = .ok (.iload_n 3, 1) := by decide +kernel
theorem dX10_riddle_285 : decode cX10_riddle 285 = .ok (.ifCond .ne 8, 3) := by decide +kernel
theorem dX10_riddle_288 : decode cX10_riddle 288 = .ok (.iload 6, 2) := by decide +kernel
theorem dX10_riddle_290 : decode cX10_riddle 290 = .ok (.goto 15, 3) := by decide +kernel
theorem dX10_riddle_293 : decode cX10_riddle 293 = .ok (.iload_n 3, 1) := by decide +kernel
theorem dX10_riddle_294 : decode cX10_riddle 294 = .ok (.iconst 1, 1) := by decide +kernel
theorem dX10_riddle_295 : decode cX10_riddle 295 = .ok (.if_icmp .ne 8, 3) := by decide +kernel
theorem dX10_riddle_298 : decode cX10_riddle 298 = .ok (.iload 7, 2) := by decide +kernel
theorem dX10_riddle_300 : decode cX10_riddle 300 = .ok (.goto 5, 3) := by decide +kernel
theorem dX10_riddle_303 : decode cX10_riddle 303 = .ok (.iload 8, 2) := by decide +kernel
theorem dX10_riddle_305 : decode cX10_riddle 305 = .ok (.ireturn, 1) := by decide +kernel
theorem dX10_ofRow_0 : decode cX10_ofRow 0 = .ok (.iconst 0, 1) := by decide +kernel
theorem dX10_ofRow_1 : decode cX10_ofRow 1 = .ok (.istore_n 2, 1) := by decide +kernel
theorem dX10_ofRow_2 : decode cX10_ofRow 2 = .ok (.iconst 0, 1) := by decide +kernel
theorem dX10_ofRow_3 : decode cX10_ofRow 3 = .ok (.istore_n 3, 1) := by decide +kernel
theorem dX10_ofRow_4 : decode cX10_ofRow 4 = .ok (.iload_n 3, 1) := by decide +kernel
theorem dX10_ofRow_5 : decode cX10_ofRow 5 = .ok (.aload_n 0, 1) := by decide +kernel
theorem dX10_ofRow_6 : decode cX10_ofRow 6 = .ok (.getfield 267, 3) := by decide +kernel
theorem dX10_ofRow_9 : decode cX10_ofRow 9 = .ok (.if_icmp .ge 24, 3) := by decide +kernel
theorem dX10_ofRow_12 : decode cX10_ofRow 12 = .ok (.iload_n 2, 1) := by decide +kernel
theorem dX10_ofRow_13 : decode cX10_ofRow 13 = .ok (.iload_n 1, 1) := by decide +kernel
theorem dX10_ofRow_14 : decode cX10_ofRow 14 = .ok (.iload_n 3, 1) := by decide +kernel
theorem dX10_ofRow_15 : decode cX10_ofRow 15 = .ok (.ishr, 1) := by decide +kernel
theorem dX10_ofRow_16 : decode cX10_ofRow 16 = .ok (.iconst 1, 1) := by decide +kernel
theorem dX10_ofRow_17 : decode cX10_ofRow 17 = .ok (.iand, 1) := by decide +kernel
theorem dX10_ofRow_18 : decode cX10_ofRow 18 = .ok (.aload_n 0, 1) := by decide +kernel
theorem dX10_ofRow_19 : decode cX10_ofRow 19 = .ok (.getfield 53, 3) := by decide +kernel
theorem dX10_ofRow_22 : decode cX10_ofRow 22 = .ok (.iload_n 3, 1) := by decide +kernel
theorem dX10_ofRow_23 : decode cX10_ofRow 23 = .ok (.iaload, 1) := by decide +kernel
theorem dX10_ofRow_24 : decode cX10_ofRow 24 = .ok (.ishl, 1) := by decide +kernel
theorem dX10_ofRow_25 : decode cX10_ofRow 25 = .ok (.ior, 1) := by decide +kernel
theorem dX10_ofRow_26 : decode cX10_ofRow 26 = .ok (.istore_n 2, 1) := by decide +kernel
theorem dX10_ofRow_27 : decode cX10_ofRow 27 = .ok (.iinc 3 1, 3) := by decide +kernel
theorem dX10_ofRow_30 : decode cX10_ofRow 30 = .ok (.goto (-26), 3) := by decide +kernel
theorem dX10_ofRow_33 : decode cX10_ofRow 33 = .ok (.iload_n 2, 1) := by decide +kernel
theorem dX10_ofRow_34 : decode cX10_ofRow 34 = .ok (.ireturn, 1) := by decide +kernel
theorem dX10_winsBy_0 : decode cX10_winsBy 0 = .ok (.iload_n 1, 1) := by decide +kernel
theorem dX10_winsBy_1 : decode cX10_winsBy 1 = .ok (.iconst 1, 1) := by decide +kernel
theorem dX10_winsBy_2 : decode cX10_winsBy 2 = .ok (.iload_n 2, 1) := by decide +kernel
theorem dX10_winsBy_3 : decode cX10_winsBy 3 = .ok (.ishl, 1) := by decide +kernel
theorem dX10_winsBy_4 : decode cX10_winsBy 4 = .ok (.ior, 1) := by decide +kernel
theorem dX10_winsBy_5 : decode cX10_winsBy 5 = .ok (.istore_n 3, 1) := by decide +kernel
theorem dX10_winsBy_6 : decode cX10_winsBy 6 = .ok (.aload_n 0, 1) := by decide +kernel
theorem dX10_winsBy_7 : decode cX10_winsBy 7 = .ok (.getfield 65, 3) := by decide +kernel
theorem dX10_winsBy_10 : decode cX10_winsBy 10 = .ok (.iload_n 3, 1) := by decide +kernel
theorem dX10_winsBy_11 : decode cX10_winsBy 11 = .ok (.iaload, 1) := by decide +kernel
theorem dX10_winsBy_12 : decode cX10_winsBy 12 = .ok (.ifCond .eq 12, 3) := by decide +kernel
theorem dX10_winsBy_15 : decode cX10_winsBy 15 = .ok (.aload_n 0, 1) := by decide +kernel
theorem dX10_winsBy_16 : decode cX10_winsBy 16 = .ok (.getfield 62, 3) := by decide +kernel
theorem dX10_winsBy_19 : decode cX10_winsBy 19 = .ok (.iload_n 3, 1) := by decide +kernel
theorem dX10_winsBy_20 : decode cX10_winsBy 20 = .ok (.iaload, 1) := by decide +kernel
theorem dX10_winsBy_21 : decode cX10_winsBy 21 = .ok (.ifCond .ne 7, 3) := by decide +kernel
theorem dX10_winsBy_24 : decode cX10_winsBy 24 = .ok (.iconst 1, 1) := by decide +kernel
theorem dX10_winsBy_25 : decode cX10_winsBy 25 = .ok (.goto 4, 3) := by decide +kernel
theorem dX10_winsBy_28 : decode cX10_winsBy 28 = .ok (.iconst 0, 1) := by decide +kernel
theorem dX10_winsBy_29 : decode cX10_winsBy 29 = .ok (.ireturn, 1) := by decide +kernel
theorem dX10_taking_0 : decode cX10_taking 0 = .ok (.iload_n 1, 1) := by decide +kernel
theorem dX10_taking_1 : decode cX10_taking 1 = .ok (.i2l, 1) := by decide +kernel
theorem dX10_taking_2 : decode cX10_taking 2 = .ok (.lconst 0, 1) := by decide +kernel
theorem dX10_taking_3 : decode cX10_taking 3 = .ok (.lconst 1, 1) := by decide +kernel
theorem dX10_taking_4 : decode cX10_taking 4 = .ok (.invokestatic 134, 3) := by decide +kernel
theorem dX10_taking_7 : decode cX10_taking 7 = .ok (.ifCond .ne 5, 3) := by decide +kernel
theorem dX10_taking_10 : decode cX10_taking 10 = .ok (.iconst (-1), 1) := by decide +kernel
theorem dX10_taking_11 : decode cX10_taking 11 = .ok (.ireturn, 1) := by decide +kernel
theorem dX10_taking_12 : decode cX10_taking 12 = .ok (.aload_n 0, 1) := by decide +kernel
theorem dX10_taking_13 : decode cX10_taking 13 = .ok (.aload_n 0, 1) := by decide +kernel
theorem dX10_taking_14 : decode cX10_taking 14 = .ok (.getfield 7, 3) := by decide +kernel
theorem dX10_taking_17 : decode cX10_taking 17 = .ok (.iconst 0, 1) := by decide +kernel
theorem dX10_taking_18 : decode cX10_taking 18 = .ok (.iaload, 1) := by decide +kernel
theorem dX10_taking_19 : decode cX10_taking 19 = .ok (.invokevirtual 272, 3) := by decide +kernel
theorem dX10_taking_22 : decode cX10_taking 22 = .ok (.aload_n 0, 1) := by decide +kernel
theorem dX10_taking_23 : decode cX10_taking 23 = .ok (.aload_n 0, 1) := by decide +kernel
theorem dX10_taking_24 : decode cX10_taking 24 = .ok (.getfield 7, 3) := by decide +kernel
theorem dX10_taking_27 : decode cX10_taking 27 = .ok (.iconst 0, 1) := by decide +kernel
theorem dX10_taking_28 : decode cX10_taking 28 = .ok (.iaload, 1) := by decide +kernel
theorem dX10_taking_29 : decode cX10_taking 29 = .ok (.invokevirtual 221, 3) := by decide +kernel
theorem dX10_taking_32 : decode cX10_taking 32 = .ok (.ifCond .eq 12, 3) := by decide +kernel
theorem dX10_taking_35 : decode cX10_taking 35 = .ok (.aload_n 0, 1) := by decide +kernel
theorem dX10_taking_36 : decode cX10_taking 36 = .ok (.getfield 267, 3) := by decide +kernel
theorem dX10_taking_39 : decode cX10_taking 39 = .ok (.bipush 12, 2) := by decide +kernel
theorem dX10_taking_41 : decode cX10_taking 41 = .ok (.if_icmp .le 6, 3) := by decide +kernel
theorem dX10_taking_44 : decode cX10_taking 44 = .ok (.bipush (-2), 2) := by decide +kernel
theorem dX10_taking_46 : decode cX10_taking 46 = .ok (.ireturn, 1) := by decide +kernel
theorem dX10_taking_47 : decode cX10_taking 47 = .ok (.iconst 1, 1) := by decide +kernel
theorem dX10_taking_48 : decode cX10_taking 48 = .ok (.aload_n 0, 1) := by decide +kernel
theorem dX10_taking_49 : decode cX10_taking 49 = .ok (.getfield 267, 3) := by decide +kernel
theorem dX10_taking_52 : decode cX10_taking 52 = .ok (.ishl, 1) := by decide +kernel
theorem dX10_taking_53 : decode cX10_taking 53 = .ok (.iconst 1, 1) := by decide +kernel
theorem dX10_taking_54 : decode cX10_taking 54 = .ok (.isub, 1) := by decide +kernel
theorem dX10_taking_55 : decode cX10_taking 55 = .ok (.istore_n 2, 1) := by decide +kernel
theorem dX10_taking_56 : decode cX10_taking 56 = .ok (.iload_n 2, 1) := by decide +kernel
theorem dX10_taking_57 : decode cX10_taking 57 = .ok (.istore_n 3, 1) := by decide +kernel
theorem dX10_taking_58 : decode cX10_taking 58 = .ok (.iload_n 3, 1) := by decide +kernel
theorem dX10_taking_59 : decode cX10_taking 59 = .ok (.ifCond .lt 103, 3) := by decide +kernel
theorem dX10_taking_62 : decode cX10_taking 62 = .ok (.aload_n 0, 1) := by decide +kernel
theorem dX10_taking_63 : decode cX10_taking 63 = .ok (.getfield 65, 3) := by decide +kernel
theorem dX10_taking_66 : decode cX10_taking 66 = .ok (.iload_n 3, 1) := by decide +kernel
theorem dX10_taking_67 : decode cX10_taking 67 = .ok (.aload_n 0, 1) := by decide +kernel
theorem dX10_taking_68 : decode cX10_taking 68 = .ok (.aload_n 0, 1) := by decide +kernel
theorem dX10_taking_69 : decode cX10_taking 69 = .ok (.getfield 7, 3) := by decide +kernel
theorem dX10_taking_72 : decode cX10_taking 72 = .ok (.iconst 0, 1) := by decide +kernel
theorem dX10_taking_73 : decode cX10_taking 73 = .ok (.iaload, 1) := by decide +kernel
theorem dX10_taking_74 : decode cX10_taking 74 = .ok (.aload_n 0, 1) := by decide +kernel
theorem dX10_taking_75 : decode cX10_taking 75 = .ok (.iload_n 3, 1) := by decide +kernel
theorem dX10_taking_76 : decode cX10_taking 76 = .ok (.invokevirtual 304, 3) := by decide +kernel
theorem dX10_taking_79 : decode cX10_taking 79 = .ok (.iconst (-1), 1) := by decide +kernel
theorem dX10_taking_80 : decode cX10_taking 80 = .ok (.ixor, 1) := by decide +kernel
theorem dX10_taking_81 : decode cX10_taking 81 = .ok (.iand, 1) := by decide +kernel
theorem dX10_taking_82 : decode cX10_taking 82 = .ok (.invokevirtual 221, 3) := by decide +kernel
theorem dX10_taking_85 : decode cX10_taking 85 = .ok (.iastore, 1) := by decide +kernel
theorem dX10_taking_86 : decode cX10_taking 86 = .ok (.aload_n 0, 1) := by decide +kernel
theorem dX10_taking_87 : decode cX10_taking 87 = .ok (.getfield 62, 3) := by decide +kernel
theorem dX10_taking_90 : decode cX10_taking 90 = .ok (.iload_n 3, 1) := by decide +kernel
theorem dX10_taking_91 : decode cX10_taking 91 = .ok (.iconst 0, 1) := by decide +kernel
theorem dX10_taking_92 : decode cX10_taking 92 = .ok (.iastore, 1) := by decide +kernel
theorem dX10_taking_93 : decode cX10_taking 93 = .ok (.iconst 0, 1) := by decide +kernel
theorem dX10_taking_94 : decode cX10_taking 94 = .ok (.istore 4, 2) := by decide +kernel
theorem dX10_taking_96 : decode cX10_taking 96 = .ok (.iload 4, 2) := by decide +kernel
theorem dX10_taking_98 : decode cX10_taking 98 = .ok (.aload_n 0, 1) := by decide +kernel
theorem dX10_taking_99 : decode cX10_taking 99 = .ok (.getfield 267, 3) := by decide +kernel
theorem dX10_taking_102 : decode cX10_taking 102 = .ok (.if_icmp .ge 54, 3) := by decide +kernel
theorem dX10_taking_105 : decode cX10_taking 105 = .ok (.aload_n 0, 1) := by decide +kernel
theorem dX10_taking_106 : decode cX10_taking 106 = .ok (.getfield 65, 3) := by decide +kernel
theorem dX10_taking_109 : decode cX10_taking 109 = .ok (.iload_n 3, 1) := by decide +kernel
theorem dX10_taking_110 : decode cX10_taking 110 = .ok (.iaload, 1) := by decide +kernel
theorem dX10_taking_111 : decode cX10_taking 111 = .ok (.ifCond .le 45, 3) := by decide +kernel
theorem dX10_taking_114 : decode cX10_taking 114 = .ok (.aload_n 0, 1) := by decide +kernel
theorem dX10_taking_115 : decode cX10_taking 115 = .ok (.getfield 62, 3) := by decide +kernel
theorem dX10_taking_118 : decode cX10_taking 118 = .ok (.iload_n 3, 1) := by decide +kernel
theorem dX10_taking_119 : decode cX10_taking 119 = .ok (.dup2, 1) := by decide +kernel
theorem dX10_taking_120 : decode cX10_taking 120 = .ok (.iaload, 1) := by decide +kernel
theorem dX10_taking_121 : decode cX10_taking 121 = .ok (.iload_n 3, 1) := by decide +kernel
theorem dX10_taking_122 : decode cX10_taking 122 = .ok (.iload 4, 2) := by decide +kernel
theorem dX10_taking_124 : decode cX10_taking 124 = .ok (.ishr, 1) := by decide +kernel
theorem dX10_taking_125 : decode cX10_taking 125 = .ok (.iconst 1, 1) := by decide +kernel
theorem dX10_taking_126 : decode cX10_taking 126 = .ok (.iand, 1) := by decide +kernel
theorem dX10_taking_127 : decode cX10_taking 127 = .ok (.ifCond .ne 17, 3) := by decide +kernel
theorem dX10_taking_130 : decode cX10_taking 130 = .ok (.aload_n 0, 1) := by decide +kernel
theorem dX10_taking_131 : decode cX10_taking 131 = .ok (.iload_n 3, 1) := by decide +kernel
theorem dX10_taking_132 : decode cX10_taking 132 = .ok (.iload 4, 2) := by decide +kernel
theorem dX10_taking_134 : decode cX10_taking 134 = .ok (.invokevirtual 307, 3) := by decide +kernel
theorem dX10_taking_137 : decode cX10_taking 137 = .ok (.ifCond .eq 7, 3) := by decide +kernel
theorem dX10_taking_140 : decode cX10_taking 140 = .ok (.iconst 1, 1) := by decide +kernel
theorem dX10_taking_141 : decode cX10_taking 141 = .ok (.goto 4, 3) := by decide +kernel
theorem dX10_taking_144 : decode cX10_taking 144 = .ok (.iconst 0, 1) := by decide +kernel
theorem dX10_taking_145 : decode cX10_taking 145 = .ok (.invokestatic 209, 3) := by decide +kernel
theorem dX10_taking_148 : decode cX10_taking 148 = .ok (.ior, 1) := by decide +kernel
theorem dX10_taking_149 : decode cX10_taking 149 = .ok (.iastore, 1) := by decide +kernel
theorem dX10_taking_150 : decode cX10_taking 150 = .ok (.iinc 4 1, 3) := by decide +kernel
theorem dX10_taking_153 : decode cX10_taking 153 = .ok (.goto (-57), 3) := by decide +kernel
theorem dX10_taking_156 : decode cX10_taking 156 = .ok (.iinc 3 (-1), 3) := by decide +kernel
theorem dX10_taking_159 : decode cX10_taking 159 = .ok (.goto (-101), 3) := by decide +kernel
theorem dX10_taking_162 : decode cX10_taking 162 = .ok (.iload_n 1, 1) := by decide +kernel
theorem dX10_taking_163 : decode cX10_taking 163 = .ok (.ifCond .eq 12, 3) := by decide +kernel
theorem dX10_taking_166 : decode cX10_taking 166 = .ok (.aload_n 0, 1) := by decide +kernel
theorem dX10_taking_167 : decode cX10_taking 167 = .ok (.getfield 62, 3) := by decide +kernel
theorem dX10_taking_170 : decode cX10_taking 170 = .ok (.iconst 0, 1) := by decide +kernel
theorem dX10_taking_171 : decode cX10_taking 171 = .ok (.iaload, 1) := by decide +kernel
theorem dX10_taking_172 : decode cX10_taking 172 = .ok (.ifCond .ne 21, 3) := by decide +kernel
theorem dX10_taking_175 : decode cX10_taking 175 = .ok (.iload_n 1, 1) := by decide +kernel
theorem dX10_taking_176 : decode cX10_taking 176 = .ok (.ifCond .ne 14, 3) := by decide +kernel
theorem dX10_taking_179 : decode cX10_taking 179 = .ok (.iconst 2, 1) := by decide +kernel
theorem dX10_taking_180 : decode cX10_taking 180 = .ok (.aload_n 0, 1) := by decide +kernel
theorem dX10_taking_181 : decode cX10_taking 181 = .ok (.getfield 62, 3) := by decide +kernel
theorem dX10_taking_184 : decode cX10_taking 184 = .ok (.iconst 0, 1) := by decide +kernel
theorem dX10_taking_185 : decode cX10_taking 185 = .ok (.iaload, 1) := by decide +kernel
theorem dX10_taking_186 : decode cX10_taking 186 = .ok (.isub, 1) := by decide +kernel
theorem dX10_taking_187 : decode cX10_taking 187 = .ok (.goto 5, 3) := by decide +kernel
theorem dX10_taking_190 : decode cX10_taking 190 = .ok (.bipush (-4), 2) := by decide +kernel
theorem dX10_taking_192 : decode cX10_taking 192 = .ok (.ireturn, 1) := by decide +kernel
theorem dX10_taking_193 : decode cX10_taking 193 = .ok (.iconst 0, 1) := by decide +kernel
theorem dX10_taking_194 : decode cX10_taking 194 = .ok (.istore_n 3, 1) := by decide +kernel
theorem dX10_taking_195 : decode cX10_taking 195 = .ok (.aload_n 0, 1) := by decide +kernel
theorem dX10_taking_196 : decode cX10_taking 196 = .ok (.iconst 0, 1) := by decide +kernel
theorem dX10_taking_197 : decode cX10_taking 197 = .ok (.iload_n 3, 1) := by decide +kernel
theorem dX10_taking_198 : decode cX10_taking 198 = .ok (.invokevirtual 307, 3) := by decide +kernel
theorem dX10_taking_201 : decode cX10_taking 201 = .ok (.ifCond .ne 9, 3) := by decide +kernel
theorem dX10_taking_204 : decode cX10_taking 204 = .ok (.iinc 3 1, 3) := by decide +kernel
theorem dX10_taking_207 : decode cX10_taking 207 = .ok (.goto (-12), 3) := by decide +kernel
theorem dX10_taking_210 : decode cX10_taking 210 = .ok (.aload_n 0, 1) := by decide +kernel
theorem dX10_taking_211 : decode cX10_taking 211 = .ok (.getfield 53, 3) := by decide +kernel
theorem dX10_taking_214 : decode cX10_taking 214 = .ok (.iload_n 3, 1) := by decide +kernel
theorem dX10_taking_215 : decode cX10_taking 215 = .ok (.iaload, 1) := by decide +kernel
theorem dX10_taking_216 : decode cX10_taking 216 = .ok (.ireturn, 1) := by decide +kernel
theorem dX10_startsLaying_0 : decode cX10_startsLaying 0 = .ok (.aload_n 0, 1) := by decide +kernel
theorem dX10_startsLaying_1 : decode cX10_startsLaying 1 = .ok (.aload_n 0, 1) := by decide +kernel
theorem dX10_startsLaying_2 : decode cX10_startsLaying 2 = .ok (.invokevirtual 301, 3) := by decide +kernel
theorem dX10_startsLaying_5 : decode cX10_startsLaying 5 = .ok (.invokevirtual 272, 3) := by decide +kernel
theorem dX10_startsLaying_8 : decode cX10_startsLaying 8 = .ok (.aload_n 0, 1) := by decide +kernel
theorem dX10_startsLaying_9 : decode cX10_startsLaying 9 = .ok (.getfield 267, 3) := by decide +kernel
theorem dX10_startsLaying_12 : decode cX10_startsLaying 12 = .ok (.ifCond .eq 12, 3) := by decide +kernel
theorem dX10_startsLaying_15 : decode cX10_startsLaying 15 = .ok (.aload_n 0, 1) := by decide +kernel
theorem dX10_startsLaying_16 : decode cX10_startsLaying 16 = .ok (.getfield 267, 3) := by decide +kernel
theorem dX10_startsLaying_19 : decode cX10_startsLaying 19 = .ok (.bipush 12, 2) := by decide +kernel
theorem dX10_startsLaying_21 : decode cX10_startsLaying 21 = .ok (.if_icmp .le 5, 3) := by decide +kernel
theorem dX10_startsLaying_24 : decode cX10_startsLaying 24 = .ok (.iconst 0, 1) := by decide +kernel
theorem dX10_startsLaying_25 : decode cX10_startsLaying 25 = .ok (.ireturn, 1) := by decide +kernel
theorem dX10_startsLaying_26 : decode cX10_startsLaying 26 = .ok (.iconst 0, 1) := by decide +kernel
theorem dX10_startsLaying_27 : decode cX10_startsLaying 27 = .ok (.istore_n 1, 1) := by decide +kernel
theorem dX10_startsLaying_28 : decode cX10_startsLaying 28 = .ok (.iload_n 1, 1) := by decide +kernel
theorem dX10_startsLaying_29 : decode cX10_startsLaying 29 = .ok (.iconst 1, 1) := by decide +kernel
theorem dX10_startsLaying_30 : decode cX10_startsLaying 30 = .ok (.aload_n 0, 1) := by decide +kernel
theorem dX10_startsLaying_31 : decode cX10_startsLaying 31 = .ok (.getfield 267, 3) := by decide +kernel
theorem dX10_startsLaying_34 : decode cX10_startsLaying 34 = .ok (.ishl, 1) := by decide +kernel
theorem dX10_startsLaying_35 : decode cX10_startsLaying 35 = .ok (.if_icmp .ge 31, 3) := by decide +kernel
theorem dX10_startsLaying_38 : decode cX10_startsLaying 38 = .ok (.aload_n 0, 1) := by decide +kernel
theorem dX10_startsLaying_39 : decode cX10_startsLaying 39 = .ok (.getfield 65, 3) := by decide +kernel
theorem dX10_startsLaying_42 : decode cX10_startsLaying 42 = .ok (.iload_n 1, 1) := by decide +kernel
theorem dX10_startsLaying_43 : decode cX10_startsLaying 43 = .ok (.aload_n 0, 1) := by decide +kernel
theorem dX10_startsLaying_44 : decode cX10_startsLaying 44 = .ok (.aload_n 0, 1) := by decide +kernel
theorem dX10_startsLaying_45 : decode cX10_startsLaying 45 = .ok (.getfield 7, 3) := by decide +kernel
theorem dX10_startsLaying_48 : decode cX10_startsLaying 48 = .ok (.iconst 0, 1) := by decide +kernel
theorem dX10_startsLaying_49 : decode cX10_startsLaying 49 = .ok (.iaload, 1) := by decide +kernel
theorem dX10_startsLaying_50 : decode cX10_startsLaying 50 = .ok (.aload_n 0, 1) := by decide +kernel
theorem dX10_startsLaying_51 : decode cX10_startsLaying 51 = .ok (.iload_n 1, 1) := by decide +kernel
theorem dX10_startsLaying_52 : decode cX10_startsLaying 52 = .ok (.invokevirtual 304, 3) := by decide +kernel
theorem dX10_startsLaying_55 : decode cX10_startsLaying 55 = .ok (.ior, 1) := by decide +kernel
theorem dX10_startsLaying_56 : decode cX10_startsLaying 56 = .ok (.invokevirtual 221, 3) := by decide +kernel
theorem dX10_startsLaying_59 : decode cX10_startsLaying 59 = .ok (.iastore, 1) := by decide +kernel
theorem dX10_startsLaying_60 : decode cX10_startsLaying 60 = .ok (.iinc 1 1, 3) := by decide +kernel
theorem dX10_startsLaying_63 : decode cX10_startsLaying 63 = .ok (.goto (-35), 3) := by decide +kernel
theorem dX10_startsLaying_66 : decode cX10_startsLaying 66 = .ok (.iconst 1, 1) := by decide +kernel
theorem dX10_startsLaying_67 : decode cX10_startsLaying 67 = .ok (.ireturn, 1) := by decide +kernel
theorem dX10_laidBy_0 : decode cX10_laidBy 0 = .ok (.iload_n 1, 1) := by decide +kernel
theorem dX10_laidBy_1 : decode cX10_laidBy 1 = .ok (.iconst 1, 1) := by decide +kernel
theorem dX10_laidBy_2 : decode cX10_laidBy 2 = .ok (.iload_n 2, 1) := by decide +kernel
theorem dX10_laidBy_3 : decode cX10_laidBy 3 = .ok (.ishl, 1) := by decide +kernel
theorem dX10_laidBy_4 : decode cX10_laidBy 4 = .ok (.ior, 1) := by decide +kernel
theorem dX10_laidBy_5 : decode cX10_laidBy 5 = .ok (.istore_n 3, 1) := by decide +kernel
theorem dX10_laidBy_6 : decode cX10_laidBy 6 = .ok (.aload_n 0, 1) := by decide +kernel
theorem dX10_laidBy_7 : decode cX10_laidBy 7 = .ok (.getfield 65, 3) := by decide +kernel
theorem dX10_laidBy_10 : decode cX10_laidBy 10 = .ok (.iload_n 3, 1) := by decide +kernel
theorem dX10_laidBy_11 : decode cX10_laidBy 11 = .ok (.iaload, 1) := by decide +kernel
theorem dX10_laidBy_12 : decode cX10_laidBy 12 = .ok (.aload_n 0, 1) := by decide +kernel
theorem dX10_laidBy_13 : decode cX10_laidBy 13 = .ok (.getfield 65, 3) := by decide +kernel
theorem dX10_laidBy_16 : decode cX10_laidBy 16 = .ok (.iload_n 1, 1) := by decide +kernel
