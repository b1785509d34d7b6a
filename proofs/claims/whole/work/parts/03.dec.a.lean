theorem dX0_init_0 : decode cX0_init 0 = .ok (.aload_n 0, 1) := by decide +kernel
theorem dX0_init_1 : decode cX0_init 1 = .ok (.invokespecial 3, 3) := by decide +kernel
theorem dX0_init_4 : decode cX0_init 4 = .ok (.aload_n 0, 1) := by decide +kernel
theorem dX0_init_5 : decode cX0_init 5 = .ok (.bipush 31, 2) := by decide +kernel
theorem dX0_init_7 : decode cX0_init 7 = .ok (.newarray .int, 2) := by decide +kernel
theorem dX0_init_9 : decode cX0_init 9 = .ok (.putfield 9, 3) := by decide +kernel
theorem dX0_init_12 : decode cX0_init 12 = .ok (.aload_n 0, 1) := by decide +kernel
theorem dX0_init_13 : decode cX0_init 13 = .ok (.bipush 20, 2) := by decide +kernel
theorem dX0_init_15 : decode cX0_init 15 = .ok (.newarray .int, 2) := by decide +kernel
theorem dX0_init_17 : decode cX0_init 17 = .ok (.putfield 15, 3) := by decide +kernel
theorem dX0_init_20 : decode cX0_init 20 = .ok (.aload_n 0, 1) := by decide +kernel
theorem dX0_init_21 : decode cX0_init 21 = .ok (.bipush 31, 2) := by decide +kernel
theorem dX0_init_23 : decode cX0_init 23 = .ok (.newarray .int, 2) := by decide +kernel
theorem dX0_init_25 : decode cX0_init 25 = .ok (.putfield 18, 3) := by decide +kernel
theorem dX0_init_28 : decode cX0_init 28 = .ok (.aload_n 0, 1) := by decide +kernel
theorem dX0_init_29 : decode cX0_init 29 = .ok (.bipush 10, 2) := by decide +kernel
theorem dX0_init_31 : decode cX0_init 31 = .ok (.newarray .int, 2) := by decide +kernel
theorem dX0_init_33 : decode cX0_init 33 = .ok (.putfield 21, 3) := by decide +kernel
theorem dX0_init_36 : decode cX0_init 36 = .ok (.return_, 1) := by decide +kernel
theorem dX0_searchAll_0 : decode cX0_searchAll 0 = .ok (.aload_n 0, 1) := by decide +kernel
theorem dX0_searchAll_1 : decode cX0_searchAll 1 = .ok (.aload_n 1, 1) := by decide +kernel
theorem dX0_searchAll_2 : decode cX0_searchAll 2 = .ok (.getfield 24, 3) := by decide +kernel
theorem dX0_searchAll_5 : decode cX0_searchAll 5 = .ok (.putfield 30, 3) := by decide +kernel
theorem dX0_searchAll_8 : decode cX0_searchAll 8 = .ok (.aload_n 0, 1) := by decide +kernel
theorem dX0_searchAll_9 : decode cX0_searchAll 9 = .ok (.getfield 21, 3) := by decide +kernel
theorem dX0_searchAll_12 : decode cX0_searchAll 12 = .ok (.iconst 0, 1) := by decide +kernel
theorem dX0_searchAll_13 : decode cX0_searchAll 13 = .ok (.invokestatic 31, 3) := by decide +kernel
theorem dX0_searchAll_16 : decode cX0_searchAll 16 = .ok (.aload_n 1, 1) := by decide +kernel
theorem dX0_searchAll_17 : decode cX0_searchAll 17 = .ok (.getfield 37, 3) := by decide +kernel
theorem dX0_searchAll_20 : decode cX0_searchAll 20 = .ok (.iconst 0, 1) := by decide +kernel
theorem dX0_searchAll_21 : decode cX0_searchAll 21 = .ok (.aload_n 0, 1) := by decide +kernel
theorem dX0_searchAll_22 : decode cX0_searchAll 22 = .ok (.getfield 15, 3) := by decide +kernel
theorem dX0_searchAll_25 : decode cX0_searchAll 25 = .ok (.iconst 0, 1) := by decide +kernel
theorem dX0_searchAll_26 : decode cX0_searchAll 26 = .ok (.bipush 20, 2) := by decide +kernel
theorem dX0_searchAll_28 : decode cX0_searchAll 28 = .ok (.invokestatic 38, 3) := by decide +kernel
theorem dX0_searchAll_31 : decode cX0_searchAll 31 = .ok (.aload_n 3, 1) := by decide +kernel
theorem dX0_searchAll_32 : decode cX0_searchAll 32 = .ok (.getfield 44, 3) := by decide +kernel
theorem dX0_searchAll_35 : decode cX0_searchAll 35 = .ok (.iconst 0, 1) := by decide +kernel
theorem dX0_searchAll_36 : decode cX0_searchAll 36 = .ok (.aload_n 0, 1) := by decide +kernel
theorem dX0_searchAll_37 : decode cX0_searchAll 37 = .ok (.getfield 9, 3) := by decide +kernel
theorem dX0_searchAll_40 : decode cX0_searchAll 40 = .ok (.iconst 0, 1) := by decide +kernel
theorem dX0_searchAll_41 : decode cX0_searchAll 41 = .ok (.bipush 31, 2) := by decide +kernel
theorem dX0_searchAll_43 : decode cX0_searchAll 43 = .ok (.invokestatic 38, 3) := by decide +kernel
theorem dX0_searchAll_46 : decode cX0_searchAll 46 = .ok (.iconst 0, 1) := by decide +kernel
theorem dX0_searchAll_47 : decode cX0_searchAll 47 = .ok (.istore 4, 2) := by decide +kernel
theorem dX0_searchAll_49 : decode cX0_searchAll 49 = .ok (.iload 4, 2) := by decide +kernel
theorem dX0_searchAll_51 : decode cX0_searchAll 51 = .ok (.aload_n 1, 1) := by decide +kernel
theorem dX0_searchAll_52 : decode cX0_searchAll 52 = .ok (.getfield 47, 3) := by decide +kernel
theorem dX0_searchAll_55 : decode cX0_searchAll 55 = .ok (.if_icmp .ge 59, 3) := by decide +kernel
theorem dX0_searchAll_58 : decode cX0_searchAll 58 = .ok (.aload_n 0, 1) := by decide +kernel
theorem dX0_searchAll_59 : decode cX0_searchAll 59 = .ok (.getfield 18, 3) := by decide +kernel
theorem dX0_searchAll_62 : decode cX0_searchAll 62 = .ok (.iload 4, 2) := by decide +kernel
theorem dX0_searchAll_64 : decode cX0_searchAll 64 = .ok (.aload_n 1, 1) := by decide +kernel
theorem dX0_searchAll_65 : decode cX0_searchAll 65 = .ok (.iload_n 2, 1) := by decide +kernel
theorem dX0_searchAll_66 : decode cX0_searchAll 66 = .ok (.iload 4, 2) := by decide +kernel
theorem dX0_searchAll_68 : decode cX0_searchAll 68 = .ok (.invokevirtual 50, 3) := by decide +kernel
theorem dX0_searchAll_71 : decode cX0_searchAll 71 = .ok (.iastore, 1) := by decide +kernel
theorem dX0_searchAll_72 : decode cX0_searchAll 72 = .ok (.aload_n 0, 1) := by decide +kernel
theorem dX0_searchAll_73 : decode cX0_searchAll 73 = .ok (.getfield 9, 3) := by decide +kernel
theorem dX0_searchAll_76 : decode cX0_searchAll 76 = .ok (.iload 4, 2) := by decide +kernel
theorem dX0_searchAll_78 : decode cX0_searchAll 78 = .ok (.iaload, 1) := by decide +kernel
theorem dX0_searchAll_79 : decode cX0_searchAll 79 = .ok (.istore 5, 2) := by decide +kernel
theorem dX0_searchAll_81 : decode cX0_searchAll 81 = .ok (.iload 5, 2) := by decide +kernel
theorem dX0_searchAll_83 : decode cX0_searchAll 83 = .ok (.bipush 9, 2) := by decide +kernel
theorem dX0_searchAll_85 : decode cX0_searchAll 85 = .ok (.if_icmp .gt 23, 3) := by decide +kernel
theorem dX0_searchAll_88 : decode cX0_searchAll 88 = .ok (.aload_n 0, 1) := by decide +kernel
theorem dX0_searchAll_89 : decode cX0_searchAll 89 = .ok (.getfield 21, 3) := by decide +kernel
theorem dX0_searchAll_92 : decode cX0_searchAll 92 = .ok (.iload 5, 2) := by decide +kernel
theorem dX0_searchAll_94 : decode cX0_searchAll 94 = .ok (.dup2, 1) := by decide +kernel
theorem dX0_searchAll_95 : decode cX0_searchAll 95 = .ok (.iaload, 1) := by decide +kernel
theorem dX0_searchAll_96 : decode cX0_searchAll 96 = .ok (.iconst 1, 1) := by decide +kernel
theorem dX0_searchAll_97 : decode cX0_searchAll 97 = .ok (.iload 4, 2) := by decide +kernel
theorem dX0_searchAll_99 : decode cX0_searchAll 99 = .ok (.ishl, 1) := by decide +kernel
theorem dX0_searchAll_100 : decode cX0_searchAll 100 = .ok (.ior, 1) := by decide +kernel
theorem dX0_searchAll_101 : decode cX0_searchAll 101 = .ok (.iastore, 1) := by decide +kernel
theorem dX0_searchAll_102 : decode cX0_searchAll 102 = .ok (.iinc 5 1, 3) := by decide +kernel
theorem dX0_searchAll_105 : decode cX0_searchAll 105 = .ok (.goto (-24), 3) := by decide +kernel
theorem dX0_searchAll_108 : decode cX0_searchAll 108 = .ok (.iinc 4 1, 3) := by decide +kernel
theorem dX0_searchAll_111 : decode cX0_searchAll 111 = .ok (.goto (-62), 3) := by decide +kernel
theorem dX0_searchAll_114 : decode cX0_searchAll 114 = .ok (.aload_n 0, 1) := by decide +kernel
theorem dX0_searchAll_115 : decode cX0_searchAll 115 = .ok (.sipush 279, 3) := by decide +kernel
theorem dX0_searchAll_118 : decode cX0_searchAll 118 = .ok (.putfield 54, 3) := by decide +kernel
theorem dX0_searchAll_121 : decode cX0_searchAll 121 = .ok (.aload_n 0, 1) := by decide +kernel
theorem dX0_searchAll_122 : decode cX0_searchAll 122 = .ok (.iconst 0, 1) := by decide +kernel
theorem dX0_searchAll_123 : decode cX0_searchAll 123 = .ok (.putfield 57, 3) := by decide +kernel
theorem dX0_searchAll_126 : decode cX0_searchAll 126 = .ok (.aload_n 0, 1) := by decide +kernel
theorem dX0_searchAll_127 : decode cX0_searchAll 127 = .ok (.iconst 0, 1) := by decide +kernel
theorem dX0_searchAll_128 : decode cX0_searchAll 128 = .ok (.putfield 60, 3) := by decide +kernel
theorem dX0_searchAll_131 : decode cX0_searchAll 131 = .ok (.aload_n 0, 1) := by decide +kernel
theorem dX0_searchAll_132 : decode cX0_searchAll 132 = .ok (.iconst 0, 1) := by decide +kernel
theorem dX0_searchAll_133 : decode cX0_searchAll 133 = .ok (.iload_n 2, 1) := by decide +kernel
theorem dX0_searchAll_134 : decode cX0_searchAll 134 = .ok (.aload_n 1, 1) := by decide +kernel
theorem dX0_searchAll_135 : decode cX0_searchAll 135 = .ok (.invokevirtual 63, 3) := by decide +kernel
theorem dX0_searchAll_138 : decode cX0_searchAll 138 = .ok (.iconst 0, 1) := by decide +kernel
theorem dX0_searchAll_139 : decode cX0_searchAll 139 = .ok (.iconst 0, 1) := by decide +kernel
theorem dX0_searchAll_140 : decode cX0_searchAll 140 = .ok (.invokestatic 67, 3) := by decide +kernel
theorem dX0_searchAll_143 : decode cX0_searchAll 143 = .ok (.return_, 1) := by decide +kernel
theorem dX0_breakOn_0 : decode cX0_breakOn 0 = .ok (.iload_n 2, 1) := by decide +kernel
theorem dX0_breakOn_1 : decode cX0_breakOn 1 = .ok (.ifCond .ne 12, 3) := by decide +kernel
theorem dX0_breakOn_4 : decode cX0_breakOn 4 = .ok (.aload_n 0, 1) := by decide +kernel
theorem dX0_breakOn_5 : decode cX0_breakOn 5 = .ok (.iload 4, 2) := by decide +kernel
theorem dX0_breakOn_7 : decode cX0_breakOn 7 = .ok (.iload 5, 2) := by decide +kernel
theorem dX0_breakOn_9 : decode cX0_breakOn 9 = .ok (.invokevirtual 71, 3) := by decide +kernel
theorem dX0_breakOn_12 : decode cX0_breakOn 12 = .ok (.return_, 1) := by decide +kernel
theorem dX0_breakOn_13 : decode cX0_breakOn 13 = .ok (.iload_n 1, 1) := by decide +kernel
theorem dX0_breakOn_14 : decode cX0_breakOn 14 = .ok (.bipush 20, 2) := by decide +kernel
theorem dX0_breakOn_16 : decode cX0_breakOn 16 = .ok (.if_icmp .ge 19, 3) := by decide +kernel
theorem dX0_breakOn_19 : decode cX0_breakOn 19 = .ok (.iload 5, 2) := by decide +kernel
theorem dX0_breakOn_21 : decode cX0_breakOn 21 = .ok (.aload_n 0, 1) := by decide +kernel
theorem dX0_breakOn_22 : decode cX0_breakOn 22 = .ok (.iload_n 2, 1) := by decide +kernel
theorem dX0_breakOn_23 : decode cX0_breakOn 23 = .ok (.iload_n 3, 1) := by decide +kernel
theorem dX0_breakOn_24 : decode cX0_breakOn 24 = .ok (.invokevirtual 75, 3) := by decide +kernel
theorem dX0_breakOn_27 : decode cX0_breakOn 27 = .ok (.iadd, 1) := by decide +kernel
theorem dX0_breakOn_28 : decode cX0_breakOn 28 = .ok (.aload_n 0, 1) := by decide +kernel
theorem dX0_breakOn_29 : decode cX0_breakOn 29 = .ok (.getfield 54, 3) := by decide +kernel
theorem dX0_breakOn_32 : decode cX0_breakOn 32 = .ok (.if_icmp .le 4, 3) := by decide +kernel
theorem dX0_breakOn_35 : decode cX0_breakOn 35 = .ok (.return_, 1) := by decide +kernel
theorem dX0_breakOn_36 : decode cX0_breakOn 36 = .ok (.aload_n 0, 1) := by decide +kernel
theorem dX0_breakOn_37 : decode cX0_breakOn 37 = .ok (.getfield 78, 3) := by decide +kernel
theorem dX0_breakOn_40 : decode cX0_breakOn 40 = .ok (.istore 6, 2) := by decide +kernel
theorem dX0_breakOn_42 : decode cX0_breakOn 42 = .ok (.iload_n 3, 1) := by decide +kernel
theorem dX0_breakOn_43 : decode cX0_breakOn 43 = .ok (.istore 7, 2) := by decide +kernel
theorem dX0_breakOn_45 : decode cX0_breakOn 45 = .ok (.iconst 0, 1) := by decide +kernel
theorem dX0_breakOn_46 : decode cX0_breakOn 46 = .ok (.istore 8, 2) := by decide +kernel
theorem dX0_breakOn_48 : decode cX0_breakOn 48 = .ok (.iload 8, 2) := by decide +kernel
theorem dX0_breakOn_50 : decode cX0_breakOn 50 = .ok (.bipush 12, 2) := by decide +kernel
theorem dX0_breakOn_52 : decode cX0_breakOn 52 = .ok (.if_icmp .ge 84, 3) := by decide +kernel
theorem dX0_breakOn_55 : decode cX0_breakOn 55 = .ok (.iload 6, 2) := by decide +kernel
theorem dX0_breakOn_57 : decode cX0_breakOn 57 = .ok (.ifCond .eq 79, 3) := by decide +kernel
theorem dX0_breakOn_60 : decode cX0_breakOn 60 = .ok (.iload 6, 2) := by decide +kernel
theorem dX0_breakOn_62 : decode cX0_breakOn 62 = .ok (.iload 6, 2) := by decide +kernel
theorem dX0_breakOn_64 : decode cX0_breakOn 64 = .ok (.ineg, 1) := by decide +kernel
theorem dX0_breakOn_65 : decode cX0_breakOn 65 = .ok (.iand, 1) := by decide +kernel
theorem dX0_breakOn_66 : decode cX0_breakOn 66 = .ok (.istore 9, 2) := by decide +kernel
theorem dX0_breakOn_68 : decode cX0_breakOn 68 = .ok (.iload 9, 2) := by decide +kernel
theorem dX0_breakOn_70 : decode cX0_breakOn 70 = .ok (.iconst 1, 1) := by decide +kernel
theorem dX0_breakOn_71 : decode cX0_breakOn 71 = .ok (.isub, 1) := by decide +kernel
theorem dX0_breakOn_72 : decode cX0_breakOn 72 = .ok (.invokestatic 81, 3) := by decide +kernel
theorem dX0_breakOn_75 : decode cX0_breakOn 75 = .ok (.istore 10, 2) := by decide +kernel
theorem dX0_breakOn_77 : decode cX0_breakOn 77 = .ok (.iload 6, 2) := by decide +kernel
theorem dX0_breakOn_79 : decode cX0_breakOn 79 = .ok (.iload 9, 2) := by decide +kernel
theorem dX0_breakOn_81 : decode cX0_breakOn 81 = .ok (.ixor, 1) := by decide +kernel
theorem dX0_breakOn_82 : decode cX0_breakOn 82 = .ok (.istore 6, 2) := by decide +kernel
theorem dX0_breakOn_84 : decode cX0_breakOn 84 = .ok (.iload 7, 2) := by decide +kernel
theorem dX0_breakOn_86 : decode cX0_breakOn 86 = .ok (.iload 9, 2) := by decide +kernel
theorem dX0_breakOn_88 : decode cX0_breakOn 88 = .ok (.ixor, 1) := by decide +kernel
theorem dX0_breakOn_89 : decode cX0_breakOn 89 = .ok (.istore 7, 2) := by decide +kernel
theorem dX0_breakOn_91 : decode cX0_breakOn 91 = .ok (.iload_n 2, 1) := by decide +kernel
theorem dX0_breakOn_92 : decode cX0_breakOn 92 = .ok (.aload_n 0, 1) := by decide +kernel
theorem dX0_breakOn_93 : decode cX0_breakOn 93 = .ok (.getfield 18, 3) := by decide +kernel
theorem dX0_breakOn_96 : decode cX0_breakOn 96 = .ok (.iload 10, 2) := by decide +kernel
theorem dX0_breakOn_98 : decode cX0_breakOn 98 = .ok (.iaload, 1) := by decide +kernel
theorem dX0_breakOn_99 : decode cX0_breakOn 99 = .ok (.iconst (-1), 1) := by decide +kernel
theorem dX0_breakOn_100 : decode cX0_breakOn 100 = .ok (.ixor, 1) := by decide +kernel
theorem dX0_breakOn_101 : decode cX0_breakOn 101 = .ok (.iand, 1) := by decide +kernel
theorem dX0_breakOn_102 : decode cX0_breakOn 102 = .ok (.istore 11, 2) := by decide +kernel
theorem dX0_breakOn_104 : decode cX0_breakOn 104 = .ok (.aload_n 0, 1) := by decide +kernel
theorem dX0_breakOn_105 : decode cX0_breakOn 105 = .ok (.iload_n 1, 1) := by decide +kernel
theorem dX0_breakOn_106 : decode cX0_breakOn 106 = .ok (.iconst 1, 1) := by decide +kernel
theorem dX0_breakOn_107 : decode cX0_breakOn 107 = .ok (.iadd, 1) := by decide +kernel
theorem dX0_breakOn_108 : decode cX0_breakOn 108 = .ok (.iload 11, 2) := by decide +kernel
theorem dX0_breakOn_110 : decode cX0_breakOn 110 = .ok (.iload 7, 2) := by decide +kernel
theorem dX0_breakOn_112 : decode cX0_breakOn 112 = .ok (.iload 4, 2) := by decide +kernel
theorem dX0_breakOn_114 : decode cX0_breakOn 114 = .ok (.iload 9, 2) := by decide +kernel
theorem dX0_breakOn_116 : decode cX0_breakOn 116 = .ok (.ior, 1) := by decide +kernel
theorem dX0_breakOn_117 : decode cX0_breakOn 117 = .ok (.iload 5, 2) := by decide +kernel
theorem dX0_breakOn_119 : decode cX0_breakOn 119 = .ok (.aload_n 0, 1) := by decide +kernel
theorem dX0_breakOn_120 : decode cX0_breakOn 120 = .ok (.getfield 9, 3) := by decide +kernel
theorem dX0_breakOn_123 : decode cX0_breakOn 123 = .ok (.iload 10, 2) := by decide +kernel
theorem dX0_breakOn_125 : decode cX0_breakOn 125 = .ok (.iaload, 1) := by decide +kernel
theorem dX0_breakOn_126 : decode cX0_breakOn 126 = .ok (.iadd, 1) := by decide +kernel
theorem dX0_breakOn_127 : decode cX0_breakOn 127 = .ok (.invokestatic 67, 3) := by decide +kernel
theorem dX0_breakOn_130 : decode cX0_breakOn 130 = .ok (.iinc 8 1, 3) := by decide +kernel
theorem dX0_breakOn_133 : decode cX0_breakOn 133 = .ok (.goto (-85), 3) := by decide +kernel
theorem dX0_breakOn_136 : decode cX0_breakOn 136 = .ok (.return_, 1) := by decide +kernel
theorem dX0_noteSet_0 : decode cX0_noteSet 0 = .ok (.iload_n 2, 1) := by decide +kernel
theorem dX0_noteSet_1 : decode cX0_noteSet 1 = .ok (.aload_n 0, 1) := by decide +kernel
theorem dX0_noteSet_2 : decode cX0_noteSet 2 = .ok (.getfield 54, 3) := by decide +kernel
theorem dX0_noteSet_5 : decode cX0_noteSet 5 = .ok (.if_icmp .le 4, 3) := by decide +kernel
theorem dX0_noteSet_8 : decode cX0_noteSet 8 = .ok (.return_, 1) := by decide +kernel
theorem dX0_noteSet_9 : decode cX0_noteSet 9 = .ok (.iload_n 2, 1) := by decide +kernel
theorem dX0_noteSet_10 : decode cX0_noteSet 10 = .ok (.aload_n 0, 1) := by decide +kernel
theorem dX0_noteSet_11 : decode cX0_noteSet 11 = .ok (.getfield 54, 3) := by decide +kernel
theorem dX0_noteSet_14 : decode cX0_noteSet 14 = .ok (.if_icmp .lt 10, 3) := by decide +kernel
theorem dX0_noteSet_17 : decode cX0_noteSet 17 = .ok (.aload_n 0, 1) := by decide +kernel
theorem dX0_noteSet_18 : decode cX0_noteSet 18 = .ok (.getfield 60, 3) := by decide +kernel
theorem dX0_noteSet_21 : decode cX0_noteSet 21 = .ok (.ifCond .ne 18, 3) := by decide +kernel
theorem dX0_noteSet_24 : decode cX0_noteSet 24 = .ok (.aload_n 0, 1) := by decide +kernel
theorem dX0_noteSet_25 : decode cX0_noteSet 25 = .ok (.iload_n 2, 1) := by decide +kernel
theorem dX0_noteSet_26 : decode cX0_noteSet 26 = .ok (.putfield 54, 3) := by decide +kernel
theorem dX0_noteSet_29 : decode cX0_noteSet 29 = .ok (.aload_n 0, 1) := by decide +kernel
theorem dX0_noteSet_30 : decode cX0_noteSet 30 = .ok (.iload_n 1, 1) := by decide +kernel
theorem dX0_noteSet_31 : decode cX0_noteSet 31 = .ok (.putfield 57, 3) := by decide +kernel
theorem dX0_noteSet_34 : decode cX0_noteSet 34 = .ok (.aload_n 0, 1) := by decide +kernel
theorem dX0_noteSet_35 : decode cX0_noteSet 35 = .ok (.iconst 0, 1) := by decide +kernel
theorem dX0_noteSet_36 : decode cX0_noteSet 36 = .ok (.putfield 60, 3) := by decide +kernel
theorem dX0_noteSet_39 : decode cX0_noteSet 39 = .ok (.aload_n 0, 1) := by decide +kernel
theorem dX0_noteSet_40 : decode cX0_noteSet 40 = .ok (.aload_n 0, 1) := by decide +kernel
theorem dX0_noteSet_41 : decode cX0_noteSet 41 = .ok (.getfield 57, 3) := by decide +kernel
theorem dX0_noteSet_44 : decode cX0_noteSet 44 = .ok (.iload_n 1, 1) := by decide +kernel
theorem dX0_noteSet_45 : decode cX0_noteSet 45 = .ok (.invokestatic 87, 3) := by decide +kernel
theorem dX0_noteSet_48 : decode cX0_noteSet 48 = .ok (.putfield 57, 3) := by decide +kernel
theorem dX0_noteSet_51 : decode cX0_noteSet 51 = .ok (.aload_n 0, 1) := by decide +kernel
theorem dX0_noteSet_52 : decode cX0_noteSet 52 = .ok (.dup, 1) := by decide +kernel
theorem dX0_noteSet_53 : decode cX0_noteSet 53 = .ok (.getfield 60, 3) := by decide +kernel
theorem dX0_noteSet_56 : decode cX0_noteSet 56 = .ok (.iconst 1, 1) := by decide +kernel
theorem dX0_noteSet_57 : decode cX0_noteSet 57 = .ok (.iadd, 1) := by decide +kernel
theorem dX0_noteSet_58 : decode cX0_noteSet 58 = .ok (.putfield 60, 3) := by decide +kernel
theorem dX0_noteSet_61 : decode cX0_noteSet 61 = .ok (.return_, 1) := by decide +kernel
theorem dX0_costAtLeast_0 : decode cX0_costAtLeast 0 = .ok (.iconst 0, 1) := by decide +kernel
theorem dX0_costAtLeast_1 : decode cX0_costAtLeast 1 = .ok (.istore_n 3, 1) := by decide +kernel
theorem dX0_costAtLeast_2 : decode cX0_costAtLeast 2 = .ok (.iconst 0, 1) := by decide +kernel
theorem dX0_costAtLeast_3 : decode cX0_costAtLeast 3 = .ok (.istore 4, 2) := by decide +kernel
theorem dX0_costAtLeast_5 : decode cX0_costAtLeast 5 = .ok (.bipush 31, 2) := by decide +kernel
theorem dX0_costAtLeast_7 : decode cX0_costAtLeast 7 = .ok (.istore 5, 2) := by decide +kernel
theorem dX0_costAtLeast_9 : decode cX0_costAtLeast 9 = .ok (.iconst 0, 1) := by decide +kernel
theorem dX0_costAtLeast_10 : decode cX0_costAtLeast 10 = .ok (.istore 6, 2) := by decide +kernel
theorem dX0_costAtLeast_12 : decode cX0_costAtLeast 12 = .ok (.iload 6, 2) := by decide +kernel
theorem dX0_costAtLeast_14 : decode cX0_costAtLeast 14 = .ok (.aload_n 0, 1) := by decide +kernel
theorem dX0_costAtLeast_15 : decode cX0_costAtLeast 15 = .ok (.getfield 30, 3) := by decide +kernel
theorem dX0_costAtLeast_18 : decode cX0_costAtLeast 18 = .ok (.if_icmp .ge 85, 3) := by decide +kernel
theorem dX0_costAtLeast_21 : decode cX0_costAtLeast 21 = .ok (.iload_n 1, 1) := by decide +kernel
theorem dX0_costAtLeast_22 : decode cX0_costAtLeast 22 = .ok (.iload 6, 2) := by decide +kernel
theorem dX0_costAtLeast_24 : decode cX0_costAtLeast 24 = .ok (.ishr, 1) := by decide +kernel
theorem dX0_costAtLeast_25 : decode cX0_costAtLeast 25 = .ok (.iconst 1, 1) := by decide +kernel
theorem dX0_costAtLeast_26 : decode cX0_costAtLeast 26 = .ok (.iand, 1) := by decide +kernel
theorem dX0_costAtLeast_27 : decode cX0_costAtLeast 27 = .ok (.ifCond .eq 70, 3) := by decide +kernel
theorem dX0_costAtLeast_30 : decode cX0_costAtLeast 30 = .ok (.aload_n 0, 1) := by decide +kernel
theorem dX0_costAtLeast_31 : decode cX0_costAtLeast 31 = .ok (.getfield 15, 3) := by decide +kernel
theorem dX0_costAtLeast_34 : decode cX0_costAtLeast 34 = .ok (.iload 6, 2) := by decide +kernel
theorem dX0_costAtLeast_36 : decode cX0_costAtLeast 36 = .ok (.iaload, 1) := by decide +kernel
theorem dX0_costAtLeast_37 : decode cX0_costAtLeast 37 = .ok (.iload_n 2, 1) := by decide +kernel
theorem dX0_costAtLeast_38 : decode cX0_costAtLeast 38 = .ok (.iand, 1) := by decide +kernel
theorem dX0_costAtLeast_39 : decode cX0_costAtLeast 39 = .ok (.istore 7, 2) := by decide +kernel
theorem dX0_costAtLeast_41 : decode cX0_costAtLeast 41 = .ok (.iload 7, 2) := by decide +kernel
theorem dX0_costAtLeast_43 : decode cX0_costAtLeast 43 = .ok (.invokestatic 81, 3) := by decide +kernel
theorem dX0_costAtLeast_46 : decode cX0_costAtLeast 46 = .ok (.istore 8, 2) := by decide +kernel
theorem dX0_costAtLeast_48 : decode cX0_costAtLeast 48 = .ok (.iload 8, 2) := by decide +kernel
theorem dX0_costAtLeast_50 : decode cX0_costAtLeast 50 = .ok (.ifCond .ne 7, 3) := by decide +kernel
theorem dX0_costAtLeast_53 : decode cX0_costAtLeast 53 = .ok (.sipush 280, 3) := by decide +kernel
theorem dX0_costAtLeast_56 : decode cX0_costAtLeast 56 = .ok (.ireturn, 1) := by decide +kernel
theorem dX0_costAtLeast_57 : decode cX0_costAtLeast 57 = .ok (.iload 8, 2) := by decide +kernel
theorem dX0_costAtLeast_59 : decode cX0_costAtLeast 59 = .ok (.iload 5, 2) := by decide +kernel
theorem dX0_costAtLeast_61 : decode cX0_costAtLeast 61 = .ok (.if_icmp .ge 13, 3) := by decide +kernel
theorem dX0_costAtLeast_64 : decode cX0_costAtLeast 64 = .ok (.iload 8, 2) := by decide +kernel
theorem dX0_costAtLeast_66 : decode cX0_costAtLeast 66 = .ok (.istore 5, 2) := by decide +kernel
theorem dX0_costAtLeast_68 : decode cX0_costAtLeast 68 = .ok (.aload_n 0, 1) := by decide +kernel
theorem dX0_costAtLeast_69 : decode cX0_costAtLeast 69 = .ok (.iload 7, 2) := by decide +kernel
theorem dX0_costAtLeast_71 : decode cX0_costAtLeast 71 = .ok (.putfield 78, 3) := by decide +kernel
theorem dX0_costAtLeast_74 : decode cX0_costAtLeast 74 = .ok (.iload 7, 2) := by decide +kernel
theorem dX0_costAtLeast_76 : decode cX0_costAtLeast 76 = .ok (.iload_n 3, 1) := by decide +kernel
theorem dX0_costAtLeast_77 : decode cX0_costAtLeast 77 = .ok (.iand, 1) := by decide +kernel
theorem dX0_costAtLeast_78 : decode cX0_costAtLeast 78 = .ok (.ifCond .ne 19, 3) := by decide +kernel
theorem dX0_costAtLeast_81 : decode cX0_costAtLeast 81 = .ok (.iload_n 3, 1) := by decide +kernel
theorem dX0_costAtLeast_82 : decode cX0_costAtLeast 82 = .ok (.iload 7, 2) := by decide +kernel
theorem dX0_costAtLeast_84 : decode cX0_costAtLeast 84 = .ok (.ior, 1) := by decide +kernel
theorem dX0_costAtLeast_85 : decode cX0_costAtLeast 85 = .ok (.istore_n 3, 1) := by decide +kernel
theorem dX0_costAtLeast_86 : decode cX0_costAtLeast 86 = .ok (.iload 4, 2) := by decide +kernel
theorem dX0_costAtLeast_88 : decode cX0_costAtLeast 88 = .ok (.aload_n 0, 1) := by decide +kernel
theorem dX0_costAtLeast_89 : decode cX0_costAtLeast 89 = .ok (.iload 7, 2) := by decide +kernel
theorem dX0_costAtLeast_91 : decode cX0_costAtLeast 91 = .ok (.invokevirtual 92, 3) := by decide +kernel
theorem dX0_costAtLeast_94 : decode cX0_costAtLeast 94 = .ok (.iadd, 1) := by decide +kernel
theorem dX0_costAtLeast_95 : decode cX0_costAtLeast 95 = .ok (.istore 4, 2) := by decide +kernel
theorem dX0_costAtLeast_97 : decode cX0_costAtLeast 97 = .ok (.iinc 6 1, 3) := by decide +kernel
theorem dX0_costAtLeast_100 : decode cX0_costAtLeast 100 = .ok (.goto (-88), 3) := by decide +kernel
theorem dX0_costAtLeast_103 : decode cX0_costAtLeast 103 = .ok (.iload 4, 2) := by decide +kernel
theorem dX0_costAtLeast_105 : decode cX0_costAtLeast 105 = .ok (.ireturn, 1) := by decide +kernel
theorem dX0_cheapestOf_0 : decode cX0_cheapestOf 0 = .ok (.iconst 1, 1) := by decide +kernel
theorem dX0_cheapestOf_1 : decode cX0_cheapestOf 1 = .ok (.istore_n 2, 1) := by decide +kernel
theorem dX0_cheapestOf_2 : decode cX0_cheapestOf 2 = .ok (.iload_n 2, 1) := by decide +kernel
theorem dX0_cheapestOf_3 : decode cX0_cheapestOf 3 = .ok (.bipush 9, 2) := by decide +kernel
theorem dX0_cheapestOf_5 : decode cX0_cheapestOf 5 = .ok (.if_icmp .ge 20, 3) := by decide +kernel
theorem dX0_cheapestOf_8 : decode cX0_cheapestOf 8 = .ok (.aload_n 0, 1) := by decide +kernel
theorem dX0_cheapestOf_9 : decode cX0_cheapestOf 9 = .ok (.getfield 21, 3) := by decide +kernel
theorem dX0_cheapestOf_12 : decode cX0_cheapestOf 12 = .ok (.iload_n 2, 1) := by decide +kernel
theorem dX0_cheapestOf_13 : decode cX0_cheapestOf 13 = .ok (.iaload, 1) := by decide +kernel
theorem dX0_cheapestOf_14 : decode cX0_cheapestOf 14 = .ok (.iload_n 1, 1) := by decide +kernel
theorem dX0_cheapestOf_15 : decode cX0_cheapestOf 15 = .ok (.iand, 1) := by decide +kernel
theorem dX0_cheapestOf_16 : decode cX0_cheapestOf 16 = .ok (.ifCond .ne 9, 3) := by decide +kernel
theorem dX0_cheapestOf_19 : decode cX0_cheapestOf 19 = .ok (.iinc 2 1, 3) := by decide +kernel
theorem dX0_cheapestOf_22 : decode cX0_cheapestOf 22 = .ok (.goto (-20), 3) := by decide +kernel
theorem dX0_cheapestOf_25 : decode cX0_cheapestOf 25 = .ok (.iload_n 2, 1) := by decide +kernel
theorem dX0_cheapestOf_26 : decode cX0_cheapestOf 26 = .ok (.ireturn, 1) := by decide +kernel
theorem dX1_init_0 : decode cX1_init 0 = .ok (.aload_n 0, 1) := by decide +kernel
theorem dX1_init_1 : decode cX1_init 1 = .ok (.invokespecial 3, 3) := by decide +kernel
theorem dX1_init_4 : decode cX1_init 4 = .ok (.aload_n 0, 1) := by decide +kernel
theorem dX1_init_5 : decode cX1_init 5 = .ok (.bipush 12, 2) := by decide +kernel
theorem dX1_init_7 : decode cX1_init 7 = .ok (.newarray .int, 2) := by decide +kernel
theorem dX1_init_9 : decode cX1_init 9 = .ok (.putfield 11, 3) := by decide +kernel
theorem dX1_init_12 : decode cX1_init 12 = .ok (.aload_n 0, 1) := by decide +kernel
theorem dX1_init_13 : decode cX1_init 13 = .ok (.bipush 20, 2) := by decide +kernel
theorem dX1_init_15 : decode cX1_init 15 = .ok (.newarray .int, 2) := by decide +kernel
theorem dX1_init_17 : decode cX1_init 17 = .ok (.putfield 15, 3) := by decide +kernel
theorem dX1_init_20 : decode cX1_init 20 = .ok (.aload_n 0, 1) := by decide +kernel
theorem dX1_init_21 : decode cX1_init 21 = .ok (.sipush 4096, 3) := by decide +kernel
theorem dX1_init_24 : decode cX1_init 24 = .ok (.newarray .byte, 2) := by decide +kernel
theorem dX1_init_26 : decode cX1_init 26 = .ok (.putfield 18, 3) := by decide +kernel
theorem dX1_init_29 : decode cX1_init 29 = .ok (.return_, 1) := by decide +kernel
theorem dX1_setUp_0 : decode cX1_setUp 0 = .ok (.aload_n 0, 1) := by decide +kernel
theorem dX1_setUp_1 : decode cX1_setUp 1 = .ok (.iconst 0, 1) := by decide +kernel
theorem dX1_setUp_2 : decode cX1_setUp 2 = .ok (.putfield 22, 3) := by decide +kernel
theorem dX1_setUp_5 : decode cX1_setUp 5 = .ok (.iconst 0, 1) := by decide +kernel
theorem dX1_setUp_6 : decode cX1_setUp 6 = .ok (.istore 4, 2) := by decide +kernel
theorem dX1_setUp_8 : decode cX1_setUp 8 = .ok (.iload 4, 2) := by decide +kernel
theorem dX1_setUp_10 : decode cX1_setUp 10 = .ok (.aload_n 1, 1) := by decide +kernel
theorem dX1_setUp_11 : decode cX1_setUp 11 = .ok (.getfield 26, 3) := by decide +kernel
theorem dX1_setUp_14 : decode cX1_setUp 14 = .ok (.if_icmp .ge 48, 3) := by decide +kernel
theorem dX1_setUp_17 : decode cX1_setUp 17 = .ok (.aload_n 0, 1) := by decide +kernel
theorem dX1_setUp_18 : decode cX1_setUp 18 = .ok (.getfield 22, 3) := by decide +kernel
theorem dX1_setUp_21 : decode cX1_setUp 21 = .ok (.bipush 12, 2) := by decide +kernel
theorem dX1_setUp_23 : decode cX1_setUp 23 = .ok (.if_icmp .ge 39, 3) := by decide +kernel
theorem dX1_setUp_26 : decode cX1_setUp 26 = .ok (.iload_n 3, 1) := by decide +kernel
theorem dX1_setUp_27 : decode cX1_setUp 27 = .ok (.iload 4, 2) := by decide +kernel
theorem dX1_setUp_29 : decode cX1_setUp 29 = .ok (.ishr, 1) := by decide +kernel
theorem dX1_setUp_30 : decode cX1_setUp 30 = .ok (.iconst 1, 1) := by decide +kernel
theorem dX1_setUp_31 : decode cX1_setUp 31 = .ok (.iand, 1) := by decide +kernel
theorem dX1_setUp_32 : decode cX1_setUp 32 = .ok (.ifCond .eq 24, 3) := by decide +kernel
theorem dX1_setUp_35 : decode cX1_setUp 35 = .ok (.aload_n 0, 1) := by decide +kernel
theorem dX1_setUp_36 : decode cX1_setUp 36 = .ok (.getfield 11, 3) := by decide +kernel
theorem dX1_setUp_39 : decode cX1_setUp 39 = .ok (.aload_n 0, 1) := by decide +kernel
theorem dX1_setUp_40 : decode cX1_setUp 40 = .ok (.getfield 22, 3) := by decide +kernel
theorem dX1_setUp_43 : decode cX1_setUp 43 = .ok (.iload 4, 2) := by decide +kernel
theorem dX1_setUp_45 : decode cX1_setUp 45 = .ok (.iastore, 1) := by decide +kernel
theorem dX1_setUp_46 : decode cX1_setUp 46 = .ok (.aload_n 0, 1) := by decide +kernel
theorem dX1_setUp_47 : decode cX1_setUp 47 = .ok (.dup, 1) := by decide +kernel
theorem dX1_setUp_48 : decode cX1_setUp 48 = .ok (.getfield 22, 3) := by decide +kernel
theorem dX1_setUp_51 : decode cX1_setUp 51 = .ok (.iconst 1, 1) := by decide +kernel
theorem dX1_setUp_52 : decode cX1_setUp 52 = .ok (.iadd, 1) := by decide +kernel
theorem dX1_setUp_53 : decode cX1_setUp 53 = .ok (.putfield 22, 3) := by decide +kernel
theorem dX1_setUp_56 : decode cX1_setUp 56 = .ok (.iinc 4 1, 3) := by decide +kernel
theorem dX1_setUp_59 : decode cX1_setUp 59 = .ok (.goto (-51), 3) := by decide +kernel
theorem dX1_setUp_62 : decode cX1_setUp 62 = .ok (.aload_n 0, 1) := by decide +kernel
theorem dX1_setUp_63 : decode cX1_setUp 63 = .ok (.iconst 0, 1) := by decide +kernel
theorem dX1_setUp_64 : decode cX1_setUp 64 = .ok (.putfield 31, 3) := by decide +kernel
theorem dX1_setUp_67 : decode cX1_setUp 67 = .ok (.iconst 0, 1) := by decide +kernel
theorem dX1_setUp_68 : decode cX1_setUp 68 = .ok (.istore 4, 2) := by decide +kernel
theorem dX1_setUp_70 : decode cX1_setUp 70 = .ok (.iload 4, 2) := by decide +kernel
theorem dX1_setUp_72 : decode cX1_setUp 72 = .ok (.aload_n 1, 1) := by decide +kernel
theorem dX1_setUp_73 : decode cX1_setUp 73 = .ok (.getfield 34, 3) := by decide +kernel
theorem dX1_setUp_76 : decode cX1_setUp 76 = .ok (.if_icmp .ge 57, 3) := by decide +kernel
theorem dX1_setUp_79 : decode cX1_setUp 79 = .ok (.aload_n 0, 1) := by decide +kernel
theorem dX1_setUp_80 : decode cX1_setUp 80 = .ok (.aload_n 1, 1) := by decide +kernel
theorem dX1_setUp_81 : decode cX1_setUp 81 = .ok (.getfield 35, 3) := by decide +kernel
theorem dX1_setUp_84 : decode cX1_setUp 84 = .ok (.iload 4, 2) := by decide +kernel
theorem dX1_setUp_86 : decode cX1_setUp 86 = .ok (.iaload, 1) := by decide +kernel
theorem dX1_setUp_87 : decode cX1_setUp 87 = .ok (.invokevirtual 38, 3) := by decide +kernel
theorem dX1_setUp_90 : decode cX1_setUp 90 = .ok (.istore 5, 2) := by decide +kernel
theorem dX1_setUp_92 : decode cX1_setUp 92 = .ok (.iload_n 2, 1) := by decide +kernel
theorem dX1_setUp_93 : decode cX1_setUp 93 = .ok (.iload 4, 2) := by decide +kernel
theorem dX1_setUp_95 : decode cX1_setUp 95 = .ok (.ishr, 1) := by decide +kernel
theorem dX1_setUp_96 : decode cX1_setUp 96 = .ok (.iconst 1, 1) := by decide +kernel
theorem dX1_setUp_97 : decode cX1_setUp 97 = .ok (.iand, 1) := by decide +kernel
theorem dX1_setUp_98 : decode cX1_setUp 98 = .ok (.ifCond .eq 29, 3) := by decide +kernel
theorem dX1_setUp_101 : decode cX1_setUp 101 = .ok (.iload 5, 2) := by decide +kernel
theorem dX1_setUp_103 : decode cX1_setUp 103 = .ok (.ifCond .eq 24, 3) := by decide +kernel
theorem dX1_setUp_106 : decode cX1_setUp 106 = .ok (.aload_n 0, 1) := by decide +kernel
theorem dX1_setUp_107 : decode cX1_setUp 107 = .ok (.getfield 15, 3) := by decide +kernel
theorem dX1_setUp_110 : decode cX1_setUp 110 = .ok (.aload_n 0, 1) := by decide +kernel
theorem dX1_setUp_111 : decode cX1_setUp 111 = .ok (.getfield 31, 3) := by decide +kernel
theorem dX1_setUp_114 : decode cX1_setUp 114 = .ok (.iload 5, 2) := by decide +kernel
theorem dX1_setUp_116 : decode cX1_setUp 116 = .ok (.iastore, 1) := by decide +kernel
theorem dX1_setUp_117 : decode cX1_setUp 117 = .ok (.aload_n 0, 1) := by decide +kernel
theorem dX1_setUp_118 : decode cX1_setUp 118 = .ok (.dup, 1) := by decide +kernel
theorem dX1_setUp_119 : decode cX1_setUp 119 = .ok (.getfield 31, 3) := by decide +kernel
theorem dX1_setUp_122 : decode cX1_setUp 122 = .ok (.iconst 1, 1) := by decide +kernel
theorem dX1_setUp_123 : decode cX1_setUp 123 = .ok (.iadd, 1) := by decide +kernel
theorem dX1_setUp_124 : decode cX1_setUp 124 = .ok (.putfield 31, 3) := by decide +kernel
theorem dX1_setUp_127 : decode cX1_setUp 127 = .ok (.iinc 4 1, 3) := by decide +kernel
theorem dX1_setUp_130 : decode cX1_setUp 130 = .ok (.goto (-60), 3) := by decide +kernel
theorem dX1_setUp_133 : decode cX1_setUp 133 = .ok (.return_, 1) := by decide +kernel
theorem dX1_renumbered_0 : decode cX1_renumbered 0 = .ok (.iconst 0, 1) := by decide +kernel
theorem dX1_renumbered_1 : decode cX1_renumbered 1 = .ok (.istore_n 2, 1) := by decide +kernel
theorem dX1_renumbered_2 : decode cX1_renumbered 2 = .ok (.iconst 0, 1) := by decide +kernel
theorem dX1_renumbered_3 : decode cX1_renumbered 3 = .ok (.istore_n 3, 1) := by decide +kernel
theorem dX1_renumbered_4 : decode cX1_renumbered 4 = .ok (.iload_n 3, 1) := by decide +kernel
theorem dX1_renumbered_5 : decode cX1_renumbered 5 = .ok (.aload_n 0, 1) := by decide +kernel
theorem dX1_renumbered_6 : decode cX1_renumbered 6 = .ok (.getfield 22, 3) := by decide +kernel
theorem dX1_renumbered_9 : decode cX1_renumbered 9 = .ok (.if_icmp .ge 24, 3) := by decide +kernel
theorem dX1_renumbered_12 : decode cX1_renumbered 12 = .ok (.iload_n 2, 1) := by decide +kernel
theorem dX1_renumbered_13 : decode cX1_renumbered 13 = .ok (.iload_n 1, 1) := by decide +kernel
theorem dX1_renumbered_14 : decode cX1_renumbered 14 = .ok (.aload_n 0, 1) := by decide +kernel
theorem dX1_renumbered_15 : decode cX1_renumbered 15 = .ok (.getfield 11, 3) := by decide +kernel
theorem dX1_renumbered_18 : decode cX1_renumbered 18 = .ok (.iload_n 3, 1) := by decide +kernel
theorem dX1_renumbered_19 : decode cX1_renumbered 19 = .ok (.iaload, 1) := by decide +kernel
theorem dX1_renumbered_20 : decode cX1_renumbered 20 = .ok (.ishr, 1) := by decide +kernel
theorem dX1_renumbered_21 : decode cX1_renumbered 21 = .ok (.iconst 1, 1) := by decide +kernel
theorem dX1_renumbered_22 : decode cX1_renumbered 22 = .ok (.iand, 1) := by decide +kernel
theorem dX1_renumbered_23 : decode cX1_renumbered 23 = .ok (.iload_n 3, 1) := by decide +kernel
theorem dX1_renumbered_24 : decode cX1_renumbered 24 = .ok (.ishl, 1) := by decide +kernel
theorem dX1_renumbered_25 : decode cX1_renumbered 25 = .ok (.ior, 1) := by decide +kernel
theorem dX1_renumbered_26 : decode cX1_renumbered 26 = .ok (.istore_n 2, 1) := by decide +kernel
theorem dX1_renumbered_27 : decode cX1_renumbered 27 = .ok (.iinc 3 1, 3) := by decide +kernel
theorem dX1_renumbered_30 : decode cX1_renumbered 30 = .ok (.goto (-26), 3) := by decide +kernel
theorem dX1_renumbered_33 : decode cX1_renumbered 33 = .ok (.iload_n 2, 1) := by decide +kernel
theorem dX1_renumbered_34 : decode cX1_renumbered 34 = .ok (.ireturn, 1) := by decide +kernel
theorem dX1_playTaking_0 : decode cX1_playTaking 0 = .ok (.aload_n 0, 1) := by decide +kernel
theorem dX1_playTaking_1 : decode cX1_playTaking 1 = .ok (.aload_n 1, 1) := by decide +kernel
theorem dX1_playTaking_2 : decode cX1_playTaking 2 = .ok (.iload_n 2, 1) := by decide +kernel
theorem dX1_playTaking_3 : decode cX1_playTaking 3 = .ok (.iload_n 3, 1) := by decide +kernel
theorem dX1_playTaking_4 : decode cX1_playTaking 4 = .ok (.invokevirtual 42, 3) := by decide +kernel
theorem dX1_playTaking_7 : decode cX1_playTaking 7 = .ok (.iconst 1, 1) := by decide +kernel
theorem dX1_playTaking_8 : decode cX1_playTaking 8 = .ok (.aload_n 0, 1) := by decide +kernel
theorem dX1_playTaking_9 : decode cX1_playTaking 9 = .ok (.getfield 22, 3) := by decide +kernel
theorem dX1_playTaking_12 : decode cX1_playTaking 12 = .ok (.ishl, 1) := by decide +kernel
theorem dX1_playTaking_13 : decode cX1_playTaking 13 = .ok (.iconst 1, 1) := by decide +kernel
theorem dX1_playTaking_14 : decode cX1_playTaking 14 = .ok (.isub, 1) := by decide +kernel
theorem dX1_playTaking_15 : decode cX1_playTaking 15 = .ok (.istore 4, 2) := by decide +kernel
theorem dX1_playTaking_17 : decode cX1_playTaking 17 = .ok (.iconst 0, 1) := by decide +kernel
theorem dX1_playTaking_18 : decode cX1_playTaking 18 = .ok (.istore 5, 2) := by decide +kernel
theorem dX1_playTaking_20 : decode cX1_playTaking 20 = .ok (.iload 5, 2) := by decide +kernel
theorem dX1_playTaking_22 : decode cX1_playTaking 22 = .ok (.iload 4, 2) := by decide +kernel
theorem dX1_playTaking_24 : decode cX1_playTaking 24 = .ok (.if_icmp .gt 43, 3) := by decide +kernel
theorem dX1_playTaking_27 : decode cX1_playTaking 27 = .ok (.aload_n 0, 1) := by decide +kernel
theorem dX1_playTaking_28 : decode cX1_playTaking 28 = .ok (.getfield 18, 3) := by decide +kernel
theorem dX1_playTaking_31 : decode cX1_playTaking 31 = .ok (.iload 5, 2) := by decide +kernel
theorem dX1_playTaking_33 : decode cX1_playTaking 33 = .ok (.iconst 0, 1) := by decide +kernel
theorem dX1_playTaking_34 : decode cX1_playTaking 34 = .ok (.bastore, 1) := by decide +kernel
theorem dX1_playTaking_35 : decode cX1_playTaking 35 = .ok (.aload_n 0, 1) := by decide +kernel
theorem dX1_playTaking_36 : decode cX1_playTaking 36 = .ok (.iload 5, 2) := by decide +kernel
theorem dX1_playTaking_38 : decode cX1_playTaking 38 = .ok (.invokevirtual 46, 3) := by decide +kernel
theorem dX1_playTaking_41 : decode cX1_playTaking 41 = .ok (.ifCond .eq 20, 3) := by decide +kernel
theorem dX1_playTaking_44 : decode cX1_playTaking 44 = .ok (.aload_n 0, 1) := by decide +kernel
theorem dX1_playTaking_45 : decode cX1_playTaking 45 = .ok (.iload 5, 2) := by decide +kernel
theorem dX1_playTaking_47 : decode cX1_playTaking 47 = .ok (.invokevirtual 50, 3) := by decide +kernel
theorem dX1_playTaking_50 : decode cX1_playTaking 50 = .ok (.ifCond .lt 11, 3) := by decide +kernel
theorem dX1_playTaking_53 : decode cX1_playTaking 53 = .ok (.aload_n 0, 1) := by decide +kernel
theorem dX1_playTaking_54 : decode cX1_playTaking 54 = .ok (.getfield 18, 3) := by decide +kernel
theorem dX1_playTaking_57 : decode cX1_playTaking 57 = .ok (.iload 5, 2) := by decide +kernel
theorem dX1_playTaking_59 : decode cX1_playTaking 59 = .ok (.iconst 1, 1) := by decide +kernel
theorem dX1_playTaking_60 : decode cX1_playTaking 60 = .ok (.bastore, 1) := by decide +kernel
theorem dX1_playTaking_61 : decode cX1_playTaking 61 = .ok (.iinc 5 1, 3) := by decide +kernel
theorem dX1_playTaking_64 : decode cX1_playTaking 64 = .ok (.goto (-44), 3) := by decide +kernel
theorem dX1_playTaking_67 : decode cX1_playTaking 67 = .ok (.aload_n 0, 1) := by decide +kernel
theorem dX1_playTaking_68 : decode cX1_playTaking 68 = .ok (.iload 4, 2) := by decide +kernel
theorem dX1_playTaking_70 : decode cX1_playTaking 70 = .ok (.invokevirtual 50, 3) := by decide +kernel
theorem dX1_playTaking_73 : decode cX1_playTaking 73 = .ok (.istore 5, 2) := by decide +kernel
theorem dX1_playTaking_75 : decode cX1_playTaking 75 = .ok (.aload_n 0, 1) := by decide +kernel
theorem dX1_playTaking_76 : decode cX1_playTaking 76 = .ok (.iload 5, 2) := by decide +kernel
theorem dX1_playTaking_78 : decode cX1_playTaking 78 = .ok (.ifCond .ge 8, 3) := by decide +kernel
theorem dX1_playTaking_81 : decode cX1_playTaking 81 = .ok (.bipush (-4), 2) := by decide +kernel
theorem dX1_playTaking_83 : decode cX1_playTaking 83 = .ok (.goto 10, 3) := by decide +kernel
theorem dX1_playTaking_86 : decode cX1_playTaking 86 = .ok (.aload_n 0, 1) := by decide +kernel
theorem dX1_playTaking_87 : decode cX1_playTaking 87 = .ok (.getfield 11, 3) := by decide +kernel
theorem dX1_playTaking_90 : decode cX1_playTaking 90 = .ok (.iload 5, 2) := by decide +kernel
theorem dX1_playTaking_92 : decode cX1_playTaking 92 = .ok (.iaload, 1) := by decide +kernel
theorem dX1_playTaking_93 : decode cX1_playTaking 93 = .ok (.putfield 53, 3) := by decide +kernel
theorem dX1_playTaking_96 : decode cX1_playTaking 96 = .ok (.return_, 1) := by decide +kernel
theorem dX1_anyWhole_0 : decode cX1_anyWhole 0 = .ok (.iconst 0, 1) := by decide +kernel
theorem dX1_anyWhole_1 : decode cX1_anyWhole 1 = .ok (.istore_n 2, 1) := by decide +kernel
theorem dX1_anyWhole_2 : decode cX1_anyWhole 2 = .ok (.iload_n 2, 1) := by decide +kernel
theorem dX1_anyWhole_3 : decode cX1_anyWhole 3 = .ok (.aload_n 0, 1) := by decide +kernel
theorem dX1_anyWhole_4 : decode cX1_anyWhole 4 = .ok (.getfield 31, 3) := by decide +kernel
theorem dX1_anyWhole_7 : decode cX1_anyWhole 7 = .ok (.if_icmp .ge 24, 3) := by decide +kernel
theorem dX1_anyWhole_10 : decode cX1_anyWhole 10 = .ok (.aload_n 0, 1) := by decide +kernel
theorem dX1_anyWhole_11 : decode cX1_anyWhole 11 = .ok (.getfield 15, 3) := by decide +kernel
theorem dX1_anyWhole_14 : decode cX1_anyWhole 14 = .ok (.iload_n 2, 1) := by decide +kernel
theorem dX1_anyWhole_15 : decode cX1_anyWhole 15 = .ok (.iaload, 1) := by decide +kernel
theorem dX1_anyWhole_16 : decode cX1_anyWhole 16 = .ok (.iload_n 1, 1) := by decide +kernel
theorem dX1_anyWhole_17 : decode cX1_anyWhole 17 = .ok (.iconst (-1), 1) := by decide +kernel
theorem dX1_anyWhole_18 : decode cX1_anyWhole 18 = .ok (.ixor, 1) := by decide +kernel
theorem dX1_anyWhole_19 : decode cX1_anyWhole 19 = .ok (.iand, 1) := by decide +kernel
theorem dX1_anyWhole_20 : decode cX1_anyWhole 20 = .ok (.ifCond .ne 5, 3) := by decide +kernel
theorem dX1_anyWhole_23 : decode cX1_anyWhole 23 = .ok (.iconst 1, 1) := by decide +kernel
theorem dX1_anyWhole_24 : decode cX1_anyWhole 24 = .ok (.ireturn, 1) := by decide +kernel
theorem dX1_anyWhole_25 : decode cX1_anyWhole 25 = .ok (.iinc 2 1, 3) := by decide +kernel
theorem dX1_anyWhole_28 : decode cX1_anyWhole 28 = .ok (.goto (-26), 3) := by decide +kernel
theorem dX1_anyWhole_31 : decode cX1_anyWhole 31 = .ok (.iconst 0, 1) := by decide +kernel
theorem dX1_anyWhole_32 : decode cX1_anyWhole 32 = .ok (.ireturn, 1) := by decide +kernel
theorem dX1_winningPlace_0 : decode cX1_winningPlace 0 = .ok (.iconst 0, 1) := by decide +kernel
theorem dX1_winningPlace_1 : decode cX1_winningPlace 1 = .ok (.istore_n 2, 1) := by decide +kernel
theorem dX1_winningPlace_2 : decode cX1_winningPlace 2 = .ok (.iload_n 2, 1) := by decide +kernel
theorem dX1_winningPlace_3 : decode cX1_winningPlace 3 = .ok (.aload_n 0, 1) := by decide +kernel
theorem dX1_winningPlace_4 : decode cX1_winningPlace 4 = .ok (.getfield 22, 3) := by decide +kernel
theorem dX1_winningPlace_7 : decode cX1_winningPlace 7 = .ok (.if_icmp .ge 32, 3) := by decide +kernel
theorem dX1_winningPlace_10 : decode cX1_winningPlace 10 = .ok (.iconst 1, 1) := by decide +kernel
theorem dX1_winningPlace_11 : decode cX1_winningPlace 11 = .ok (.iload_n 2, 1) := by decide +kernel
theorem dX1_winningPlace_12 : decode cX1_winningPlace 12 = .ok (.ishl, 1) := by decide +kernel
theorem dX1_winningPlace_13 : decode cX1_winningPlace 13 = .ok (.istore_n 3, 1) := by decide +kernel
theorem dX1_winningPlace_14 : decode cX1_winningPlace 14 = .ok (.iload_n 1, 1) := by decide +kernel
theorem dX1_winningPlace_15 : decode cX1_winningPlace 15 = .ok (.iload_n 3, 1) := by decide +kernel
theorem dX1_winningPlace_16 : decode cX1_winningPlace 16 = .ok (.iand, 1) := by decide +kernel
theorem dX1_winningPlace_17 : decode cX1_winningPlace 17 = .ok (.ifCond .eq 16, 3) := by decide +kernel
theorem dX1_winningPlace_20 : decode cX1_winningPlace 20 = .ok (.aload_n 0, 1) := by decide +kernel
theorem dX1_winningPlace_21 : decode cX1_winningPlace 21 = .ok (.getfield 18, 3) := by decide +kernel
theorem dX1_winningPlace_24 : decode cX1_winningPlace 24 = .ok (.iload_n 1, 1) := by decide +kernel
theorem dX1_winningPlace_25 : decode cX1_winningPlace 25 = .ok (.iload_n 3, 1) := by decide +kernel
theorem dX1_winningPlace_26 : decode cX1_winningPlace 26 = .ok (.ixor, 1) := by decide +kernel
theorem dX1_winningPlace_27 : decode cX1_winningPlace 27 = .ok (.baload, 1) := by decide +kernel
theorem dX1_winningPlace_28 : decode cX1_winningPlace 28 = .ok (.ifCond .ne 5, 3) := by decide +kernel
theorem dX1_winningPlace_31 : decode cX1_winningPlace 31 = .ok (.iload_n 2, 1) := by decide +kernel
theorem dX1_winningPlace_32 : decode cX1_winningPlace 32 = .ok (.ireturn, 1) := by decide +kernel
theorem dX1_winningPlace_33 : decode cX1_winningPlace 33 = .ok (.iinc 2 1, 3) := by decide +kernel
theorem dX1_winningPlace_36 : decode cX1_winningPlace 36 = .ok (.goto (-34), 3) := by decide +kernel
theorem dX1_winningPlace_39 : decode cX1_winningPlace 39 = .ok (.iconst (-1), 1) := by decide +kernel
theorem dX1_winningPlace_40 : decode cX1_winningPlace 40 = .ok (.ireturn, 1) := by decide +kernel
theorem dX1_playLaying_0 : decode cX1_playLaying 0 = .ok (.aload_n 0, 1) := by decide +kernel
theorem dX1_playLaying_1 : decode cX1_playLaying 1 = .ok (.aload_n 1, 1) := by decide +kernel
theorem dX1_playLaying_2 : decode cX1_playLaying 2 = .ok (.iload_n 2, 1) := by decide +kernel
theorem dX1_playLaying_3 : decode cX1_playLaying 3 = .ok (.iload_n 3, 1) := by decide +kernel
theorem dX1_playLaying_4 : decode cX1_playLaying 4 = .ok (.invokevirtual 42, 3) := by decide +kernel
theorem dX1_playLaying_7 : decode cX1_playLaying 7 = .ok (.aload_n 0, 1) := by decide +kernel
theorem dX1_playLaying_8 : decode cX1_playLaying 8 = .ok (.getfield 18, 3) := by decide +kernel
theorem dX1_playLaying_11 : decode cX1_playLaying 11 = .ok (.iconst 0, 1) := by decide +kernel
theorem dX1_playLaying_12 : decode cX1_playLaying 12 = .ok (.iconst 0, 1) := by decide +kernel
theorem dX1_playLaying_13 : decode cX1_playLaying 13 = .ok (.bastore, 1) := by decide +kernel
theorem dX1_playLaying_14 : decode cX1_playLaying 14 = .ok (.iconst 1, 1) := by decide +kernel
theorem dX1_playLaying_15 : decode cX1_playLaying 15 = .ok (.aload_n 0, 1) := by decide +kernel
theorem dX1_playLaying_16 : decode cX1_playLaying 16 = .ok (.getfield 22, 3) := by decide +kernel
theorem dX1_playLaying_19 : decode cX1_playLaying 19 = .ok (.ishl, 1) := by decide +kernel
theorem dX1_playLaying_20 : decode cX1_playLaying 20 = .ok (.iconst 1, 1) := by decide +kernel
theorem dX1_playLaying_21 : decode cX1_playLaying 21 = .ok (.isub, 1) := by decide +kernel
theorem dX1_playLaying_22 : decode cX1_playLaying 22 = .ok (.istore 5, 2) := by decide +kernel
theorem dX1_playLaying_24 : decode cX1_playLaying 24 = .ok (.iconst 1, 1) := by decide +kernel
theorem dX1_playLaying_25 : decode cX1_playLaying 25 = .ok (.istore 6, 2) := by decide +kernel
theorem dX1_playLaying_27 : decode cX1_playLaying 27 = .ok (.iload 6, 2) := by decide +kernel
theorem dX1_playLaying_29 : decode cX1_playLaying 29 = .ok (.iload 5, 2) := by decide +kernel
theorem dX1_playLaying_31 : decode cX1_playLaying 31 = .ok (.if_icmp .gt 29, 3) := by decide +kernel
theorem dX1_playLaying_34 : decode cX1_playLaying 34 = .ok (.aload_n 0, 1) := by decide +kernel
theorem dX1_playLaying_35 : decode cX1_playLaying 35 = .ok (.iload 6, 2) := by decide +kernel
theorem dX1_playLaying_37 : decode cX1_playLaying 37 = .ok (.iload 4, 2) := by decide +kernel
theorem dX1_playLaying_39 : decode cX1_playLaying 39 = .ok (.invokevirtual 56, 3) := by decide +kernel
theorem dX1_playLaying_42 : decode cX1_playLaying 42 = .ok (.aload_n 0, 1) := by decide +kernel
theorem dX1_playLaying_43 : decode cX1_playLaying 43 = .ok (.getfield 18, 3) := by decide +kernel
theorem dX1_playLaying_46 : decode cX1_playLaying 46 = .ok (.iload 6, 2) := by decide +kernel
theorem dX1_playLaying_48 : decode cX1_playLaying 48 = .ok (.aload_n 0, 1) := by decide +kernel
theorem dX1_playLaying_49 : decode cX1_playLaying 49 = .ok (.getfield 60, 3) := by decide +kernel
theorem dX1_playLaying_52 : decode cX1_playLaying 52 = .ok (.i2b, 1) := by decide +kernel
theorem dX1_playLaying_53 : decode cX1_playLaying 53 = .ok (.bastore, 1) := by decide +kernel
theorem dX1_playLaying_54 : decode cX1_playLaying 54 = .ok (.iinc 6 1, 3) := by decide +kernel
theorem dX1_playLaying_57 : decode cX1_playLaying 57 = .ok (.goto (-30), 3) := by decide +kernel
theorem dX1_playLaying_60 : decode cX1_playLaying 60 = .ok (.aload_n 0, 1) := by decide +kernel
theorem dX1_playLaying_61 : decode cX1_playLaying 61 = .ok (.aload_n 0, 1) := by decide +kernel
theorem dX1_playLaying_62 : decode cX1_playLaying 62 = .ok (.getfield 11, 3) := by decide +kernel
theorem dX1_playLaying_65 : decode cX1_playLaying 65 = .ok (.aload_n 0, 1) := by decide +kernel
theorem dX1_playLaying_66 : decode cX1_playLaying 66 = .ok (.getfield 53, 3) := by decide +kernel
theorem dX1_playLaying_69 : decode cX1_playLaying 69 = .ok (.iaload, 1) := by decide +kernel
theorem dX1_playLaying_70 : decode cX1_playLaying 70 = .ok (.putfield 53, 3) := by decide +kernel
theorem dX1_playLaying_73 : decode cX1_playLaying 73 = .ok (.return_, 1) := by decide +kernel
theorem dX1_findBest_0 : decode cX1_findBest 0 = .ok (.aload_n 0, 1) := by decide +kernel
theorem dX1_findBest_1 : decode cX1_findBest 1 = .ok (.iload_n 1, 1) := by decide +kernel
theorem dX1_findBest_2 : decode cX1_findBest 2 = .ok (.invokevirtual 63, 3) := by decide +kernel
theorem dX1_findBest_5 : decode cX1_findBest 5 = .ok (.istore_n 3, 1) := by decide +kernel
theorem dX1_findBest_6 : decode cX1_findBest 6 = .ok (.aload_n 0, 1) := by decide +kernel
theorem dX1_findBest_7 : decode cX1_findBest 7 = .ok (.iconst 0, 1) := by decide +kernel
theorem dX1_findBest_8 : decode cX1_findBest 8 = .ok (.putfield 53, 3) := by decide +kernel
theorem dX1_findBest_11 : decode cX1_findBest 11 = .ok (.aload_n 0, 1) := by decide +kernel
theorem dX1_findBest_12 : decode cX1_findBest 12 = .ok (.bipush (-21), 2) := by decide +kernel
theorem dX1_findBest_14 : decode cX1_findBest 14 = .ok (.putfield 60, 3) := by decide +kernel
theorem dX1_findBest_17 : decode cX1_findBest 17 = .ok (.iconst 0, 1) := by decide +kernel
theorem dX1_findBest_18 : decode cX1_findBest 18 = .ok (.istore 4, 2) := by decide +kernel
theorem dX1_findBest_20 : decode cX1_findBest 20 = .ok (.iload 4, 2) := by decide +kernel
theorem dX1_findBest_22 : decode cX1_findBest 22 = .ok (.aload_n 0, 1) := by decide +kernel
theorem dX1_findBest_23 : decode cX1_findBest 23 = .ok (.getfield 22, 3) := by decide +kernel
theorem dX1_findBest_26 : decode cX1_findBest 26 = .ok (.if_icmp .ge 82, 3) := by decide +kernel
theorem dX1_findBest_29 : decode cX1_findBest 29 = .ok (.iconst 1, 1) := by decide +kernel
theorem dX1_findBest_30 : decode cX1_findBest 30 = .ok (.iload 4, 2) := by decide +kernel
theorem dX1_findBest_32 : decode cX1_findBest 32 = .ok (.ishl, 1) := by decide +kernel
theorem dX1_findBest_33 : decode cX1_findBest 33 = .ok (.istore 5, 2) := by decide +kernel
theorem dX1_findBest_35 : decode cX1_findBest 35 = .ok (.iload_n 1, 1) := by decide +kernel
theorem dX1_findBest_36 : decode cX1_findBest 36 = .ok (.iload 5, 2) := by decide +kernel
theorem dX1_findBest_38 : decode cX1_findBest 38 = .ok (.iand, 1) := by decide +kernel
theorem dX1_findBest_39 : decode cX1_findBest 39 = .ok (.ifCond .eq 63, 3) := by decide +kernel
theorem dX1_findBest_42 : decode cX1_findBest 42 = .ok (.aload_n 0, 1) := by decide +kernel
theorem dX1_findBest_43 : decode cX1_findBest 43 = .ok (.getfield 18, 3) := by decide +kernel
theorem dX1_findBest_46 : decode cX1_findBest 46 = .ok (.iload_n 1, 1) := by decide +kernel
theorem dX1_findBest_47 : decode cX1_findBest 47 = .ok (.iload 5, 2) := by decide +kernel
theorem dX1_findBest_49 : decode cX1_findBest 49 = .ok (.ixor, 1) := by decide +kernel
theorem dX1_findBest_50 : decode cX1_findBest 50 = .ok (.baload, 1) := by decide +kernel
theorem dX1_findBest_51 : decode cX1_findBest 51 = .ok (.ineg, 1) := by decide +kernel
theorem dX1_findBest_52 : decode cX1_findBest 52 = .ok (.istore 6, 2) := by decide +kernel
theorem dX1_findBest_54 : decode cX1_findBest 54 = .ok (.iload_n 3, 1) := by decide +kernel
theorem dX1_findBest_55 : decode cX1_findBest 55 = .ok (.iload 5, 2) := by decide +kernel
theorem dX1_findBest_57 : decode cX1_findBest 57 = .ok (.iand, 1) := by decide +kernel
theorem dX1_findBest_58 : decode cX1_findBest 58 = .ok (.ifCond .eq 23, 3) := by decide +kernel
theorem dX1_findBest_61 : decode cX1_findBest 61 = .ok (.iload_n 2, 1) := by decide +kernel
theorem dX1_findBest_62 : decode cX1_findBest 62 = .ok (.ifCond .eq 16, 3) := by decide +kernel
theorem dX1_findBest_65 : decode cX1_findBest 65 = .ok (.aload_n 0, 1) := by decide +kernel
theorem dX1_findBest_66 : decode cX1_findBest 66 = .ok (.iload_n 1, 1) := by decide +kernel
theorem dX1_findBest_67 : decode cX1_findBest 67 = .ok (.iload 5, 2) := by decide +kernel
theorem dX1_findBest_69 : decode cX1_findBest 69 = .ok (.invokevirtual 66, 3) := by decide +kernel
theorem dX1_findBest_72 : decode cX1_findBest 72 = .ok (.iload 6, 2) := by decide +kernel
theorem dX1_findBest_74 : decode cX1_findBest 74 = .ok (.isub, 1) := by decide +kernel
theorem dX1_findBest_75 : decode cX1_findBest 75 = .ok (.goto 4, 3) := by decide +kernel
theorem dX1_findBest_78 : decode cX1_findBest 78 = .ok (.iconst 1, 1) := by decide +kernel
theorem dX1_findBest_79 : decode cX1_findBest 79 = .ok (.istore 6, 2) := by decide +kernel
theorem dX1_findBest_81 : decode cX1_findBest 81 = .ok (.iload 6, 2) := by decide +kernel
theorem dX1_findBest_83 : decode cX1_findBest 83 = .ok (.aload_n 0, 1) := by decide +kernel
theorem dX1_findBest_84 : decode cX1_findBest 84 = .ok (.getfield 60, 3) := by decide +kernel
theorem dX1_findBest_87 : decode cX1_findBest 87 = .ok (.if_icmp .le 15, 3) := by decide +kernel
theorem dX1_findBest_90 : decode cX1_findBest 90 = .ok (.aload_n 0, 1) := by decide +kernel
theorem dX1_findBest_91 : decode cX1_findBest 91 = .ok (.iload 6, 2) := by decide +kernel
theorem dX1_findBest_93 : decode cX1_findBest 93 = .ok (.putfield 60, 3) := by decide +kernel
theorem dX1_findBest_96 : decode cX1_findBest 96 = .ok (.aload_n 0, 1) := by decide +kernel
theorem dX1_findBest_97 : decode cX1_findBest 97 = .ok (.iload 4, 2) := by decide +kernel
theorem dX1_findBest_99 : decode cX1_findBest 99 = .ok (.putfield 53, 3) := by decide +kernel
theorem dX1_findBest_102 : decode cX1_findBest 102 = .ok (.iinc 4 1, 3) := by decide +kernel
theorem dX1_findBest_105 : decode cX1_findBest 105 = .ok (.goto (-85), 3) := by decide +kernel
theorem dX1_findBest_108 : decode cX1_findBest 108 = .ok (.return_, 1) := by decide +kernel
theorem dX1_closingPlaces_0 : decode cX1_closingPlaces 0 = .ok (.iconst 0, 1) := by decide +kernel
theorem dX1_closingPlaces_1 : decode cX1_closingPlaces 1 = .ok (.istore_n 2, 1) := by decide +kernel
theorem dX1_closingPlaces_2 : decode cX1_closingPlaces 2 = .ok (.iconst 0, 1) := by decide +kernel
theorem dX1_closingPlaces_3 : decode cX1_closingPlaces 3 = .ok (.istore_n 3, 1) := by decide +kernel
theorem dX1_closingPlaces_4 : decode cX1_closingPlaces 4 = .ok (.iload_n 3, 1) := by decide +kernel
theorem dX1_closingPlaces_5 : decode cX1_closingPlaces 5 = .ok (.aload_n 0, 1) := by decide +kernel
theorem dX1_closingPlaces_6 : decode cX1_closingPlaces 6 = .ok (.getfield 31, 3) := by decide +kernel
theorem dX1_closingPlaces_9 : decode cX1_closingPlaces 9 = .ok (.if_icmp .ge 34, 3) := by decide +kernel
theorem dX1_closingPlaces_12 : decode cX1_closingPlaces 12 = .ok (.aload_n 0, 1) := by decide +kernel
theorem dX1_closingPlaces_13 : decode cX1_closingPlaces 13 = .ok (.getfield 15, 3) := by decide +kernel
theorem dX1_closingPlaces_16 : decode cX1_closingPlaces 16 = .ok (.iload_n 3, 1) := by decide +kernel
theorem dX1_closingPlaces_17 : decode cX1_closingPlaces 17 = .ok (.iaload, 1) := by decide +kernel
theorem dX1_closingPlaces_18 : decode cX1_closingPlaces 18 = .ok (.iload_n 1, 1) := by decide +kernel
theorem dX1_closingPlaces_19 : decode cX1_closingPlaces 19 = .ok (.iand, 1) := by decide +kernel
theorem dX1_closingPlaces_20 : decode cX1_closingPlaces 20 = .ok (.istore 4, 2) := by decide +kernel
theorem dX1_closingPlaces_22 : decode cX1_closingPlaces 22 = .ok (.iload 4, 2) := by decide +kernel
theorem dX1_closingPlaces_24 : decode cX1_closingPlaces 24 = .ok (.iload 4, 2) := by decide +kernel
theorem dX1_closingPlaces_26 : decode cX1_closingPlaces 26 = .ok (.iconst 1, 1) := by decide +kernel
theorem dX1_closingPlaces_27 : decode cX1_closingPlaces 27 = .ok (.isub, 1) := by decide +kernel
theorem dX1_closingPlaces_28 : decode cX1_closingPlaces 28 = .ok (.iand, 1) := by decide +kernel
theorem dX1_closingPlaces_29 : decode cX1_closingPlaces 29 = .ok (.ifCond .ne 8, 3) := by decide +kernel
theorem dX1_closingPlaces_32 : decode cX1_closingPlaces 32 = .ok (.iload_n 2, 1) := by decide +kernel
theorem dX1_closingPlaces_33 : decode cX1_closingPlaces 33 = .ok (.iload 4, 2) := by decide +kernel
theorem dX1_closingPlaces_35 : decode cX1_closingPlaces 35 = .ok (.ior, 1) := by decide +kernel
theorem dX1_closingPlaces_36 : decode cX1_closingPlaces 36 = .ok (.istore_n 2, 1) := by decide +kernel
theorem dX1_closingPlaces_37 : decode cX1_closingPlaces 37 = .ok (.iinc 3 1, 3) := by decide +kernel
theorem dX1_closingPlaces_40 : decode cX1_closingPlaces 40 = .ok (.goto (-36), 3) := by decide +kernel
theorem dX1_closingPlaces_43 : decode cX1_closingPlaces 43 = .ok (.iload_n 2, 1) := by decide +kernel
theorem dX1_closingPlaces_44 : decode cX1_closingPlaces 44 = .ok (.ireturn, 1) := by decide +kernel
theorem dX1_madeBy_0 : decode cX1_madeBy 0 = .ok (.iconst 0, 1) := by decide +kernel
theorem dX1_madeBy_1 : decode cX1_madeBy 1 = .ok (.istore_n 3, 1) := by decide +kernel
theorem dX1_madeBy_2 : decode cX1_madeBy 2 = .ok (.iconst 0, 1) := by decide +kernel
theorem dX1_madeBy_3 : decode cX1_madeBy 3 = .ok (.istore 4, 2) := by decide +kernel
theorem dX1_madeBy_5 : decode cX1_madeBy 5 = .ok (.iload 4, 2) := by decide +kernel
theorem dX1_madeBy_7 : decode cX1_madeBy 7 = .ok (.aload_n 0, 1) := by decide +kernel
theorem dX1_madeBy_8 : decode cX1_madeBy 8 = .ok (.getfield 31, 3) := by decide +kernel
theorem dX1_madeBy_11 : decode cX1_madeBy 11 = .ok (.if_icmp .ge 25, 3) := by decide +kernel
theorem dX1_madeBy_14 : decode cX1_madeBy 14 = .ok (.aload_n 0, 1) := by decide +kernel
theorem dX1_madeBy_15 : decode cX1_madeBy 15 = .ok (.getfield 15, 3) := by decide +kernel
theorem dX1_madeBy_18 : decode cX1_madeBy 18 = .ok (.iload 4, 2) := by decide +kernel
theorem dX1_madeBy_20 : decode cX1_madeBy 20 = .ok (.iaload, 1) := by decide +kernel
theorem dX1_madeBy_21 : decode cX1_madeBy 21 = .ok (.iload_n 1, 1) := by decide +kernel
theorem dX1_madeBy_22 : decode cX1_madeBy 22 = .ok (.iand, 1) := by decide +kernel
theorem dX1_madeBy_23 : decode cX1_madeBy 23 = .ok (.iload_n 2, 1) := by decide +kernel
theorem dX1_madeBy_24 : decode cX1_madeBy 24 = .ok (.if_icmp .ne 6, 3) := by decide +kernel
theorem dX1_madeBy_27 : decode cX1_madeBy 27 = .ok (.iinc 3 1, 3) := by decide +kernel
theorem dX1_madeBy_30 : decode cX1_madeBy 30 = .ok (.iinc 4 1, 3) := by decide +kernel
theorem dX1_madeBy_33 : decode cX1_madeBy 33 = .ok (.goto (-28), 3) := by decide +kernel
theorem dX1_madeBy_36 : decode cX1_madeBy 36 = .ok (.iload_n 3, 1) := by decide +kernel
theorem dX1_madeBy_37 : decode cX1_madeBy 37 = .ok (.ireturn, 1) := by decide +kernel
theorem dX2_init_0 : decode cX2_init 0 = .ok (.aload_n 0, 1) := by decide +kernel
theorem dX2_init_1 : decode cX2_init 1 = .ok (.invokespecial 3, 3) := by decide +kernel
theorem dX2_init_4 : decode cX2_init 4 = .ok (.aload_n 0, 1) := by decide +kernel
theorem dX2_init_5 : decode cX2_init 5 = .ok (.bipush 20, 2) := by decide +kernel
theorem dX2_init_7 : decode cX2_init 7 = .ok (.newarray .int, 2) := by decide +kernel
theorem dX2_init_9 : decode cX2_init 9 = .ok (.putfield 9, 3) := by decide +kernel
theorem dX2_init_12 : decode cX2_init 12 = .ok (.aload_n 0, 1) := by decide +kernel
theorem dX2_init_13 : decode cX2_init 13 = .ok (.bipush 20, 2) := by decide +kernel
theorem dX2_init_15 : decode cX2_init 15 = .ok (.newarray .int, 2) := by decide +kernel
theorem dX2_init_17 : decode cX2_init 17 = .ok (.putfield 15, 3) := by decide +kernel
theorem dX2_init_20 : decode cX2_init 20 = .ok (.aload_n 0, 1) := by decide +kernel
theorem dX2_init_21 : decode cX2_init 21 = .ok (.bipush 20, 2) := by decide +kernel
theorem dX2_init_23 : decode cX2_init 23 = .ok (.newarray .int, 2) := by decide +kernel
theorem dX2_init_25 : decode cX2_init 25 = .ok (.putfield 18, 3) := by decide +kernel
theorem dX2_init_28 : decode cX2_init 28 = .ok (.aload_n 0, 1) := by decide +kernel
theorem dX2_init_29 : decode cX2_init 29 = .ok (.bipush 20, 2) := by decide +kernel
theorem dX2_init_31 : decode cX2_init 31 = .ok (.newarray .int, 2) := by decide +kernel
theorem dX2_init_33 : decode cX2_init 33 = .ok (.putfield 21, 3) := by decide +kernel
theorem dX2_init_36 : decode cX2_init 36 = .ok (.aload_n 0, 1) := by decide +kernel
theorem dX2_init_37 : decode cX2_init 37 = .ok (.iconst 4, 1) := by decide +kernel
theorem dX2_init_38 : decode cX2_init 38 = .ok (.newarray .int, 2) := by decide +kernel
theorem dX2_init_40 : decode cX2_init 40 = .ok (.putfield 24, 3) := by decide +kernel
theorem dX2_init_43 : decode cX2_init 43 = .ok (.aload_n 0, 1) := by decide +kernel
theorem dX2_init_44 : decode cX2_init 44 = .ok (.bipush 31, 2) := by decide +kernel
theorem dX2_init_46 : decode cX2_init 46 = .ok (.newarray .int, 2) := by decide +kernel
theorem dX2_init_48 : decode cX2_init 48 = .ok (.putfield 27, 3) := by decide +kernel
theorem dX2_init_51 : decode cX2_init 51 = .ok (.aload_n 0, 1) := by decide +kernel
theorem dX2_init_52 : decode cX2_init 52 = .ok (.bipush 31, 2) := by decide +kernel
theorem dX2_init_54 : decode cX2_init 54 = .ok (.newarray .int, 2) := by decide +kernel
theorem dX2_init_56 : decode cX2_init 56 = .ok (.putfield 30, 3) := by decide +kernel
theorem dX2_init_59 : decode cX2_init 59 = .ok (.aload_n 0, 1) := by decide +kernel
theorem dX2_init_60 : decode cX2_init 60 = .ok (.bipush 31, 2) := by decide +kernel
theorem dX2_init_62 : decode cX2_init 62 = .ok (.newarray .int, 2) := by decide +kernel
theorem dX2_init_64 : decode cX2_init 64 = .ok (.putfield 33, 3) := by decide +kernel
theorem dX2_init_67 : decode cX2_init 67 = .ok (.return_, 1) := by decide +kernel
theorem dX2_form_0 : decode cX2_form 0 = .ok (.aload_n 0, 1) := by decide +kernel
theorem dX2_form_1 : decode cX2_form 1 = .ok (.iload_n 1, 1) := by decide +kernel
theorem dX2_form_2 : decode cX2_form 2 = .ok (.putfield 36, 3) := by decide +kernel
theorem dX2_form_5 : decode cX2_form 5 = .ok (.aload_n 0, 1) := by decide +kernel
theorem dX2_form_6 : decode cX2_form 6 = .ok (.iload_n 2, 1) := by decide +kernel
theorem dX2_form_7 : decode cX2_form 7 = .ok (.putfield 40, 3) := by decide +kernel
theorem dX2_form_10 : decode cX2_form 10 = .ok (.aload_n 0, 1) := by decide +kernel
theorem dX2_form_11 : decode cX2_form 11 = .ok (.aload_n 0, 1) := by decide +kernel
theorem dX2_form_12 : decode cX2_form 12 = .ok (.getfield 36, 3) := by decide +kernel
theorem dX2_form_15 : decode cX2_form 15 = .ok (.aload_n 0, 1) := by decide +kernel
theorem dX2_form_16 : decode cX2_form 16 = .ok (.getfield 40, 3) := by decide +kernel
theorem dX2_form_19 : decode cX2_form 19 = .ok (.invokestatic 43, 3) := by decide +kernel
theorem dX2_form_22 : decode cX2_form 22 = .ok (.putfield 47, 3) := by decide +kernel
theorem dX2_form_25 : decode cX2_form 25 = .ok (.aload_n 0, 1) := by decide +kernel
theorem dX2_form_26 : decode cX2_form 26 = .ok (.iconst 0, 1) := by decide +kernel
theorem dX2_form_27 : decode cX2_form 27 = .ok (.putfield 50, 3) := by decide +kernel
theorem dX2_form_30 : decode cX2_form 30 = .ok (.iconst 1, 1) := by decide +kernel
theorem dX2_form_31 : decode cX2_form 31 = .ok (.istore_n 3, 1) := by decide +kernel
theorem dX2_form_32 : decode cX2_form 32 = .ok (.iload_n 3, 1) := by decide +kernel
theorem dX2_form_33 : decode cX2_form 33 = .ok (.iconst 3, 1) := by decide +kernel
theorem dX2_form_34 : decode cX2_form 34 = .ok (.if_icmp .gt 21, 3) := by decide +kernel
theorem dX2_form_37 : decode cX2_form 37 = .ok (.aload_n 0, 1) := by decide +kernel
theorem dX2_form_38 : decode cX2_form 38 = .ok (.getfield 24, 3) := by decide +kernel
theorem dX2_form_41 : decode cX2_form 41 = .ok (.iload_n 3, 1) := by decide +kernel
theorem dX2_form_42 : decode cX2_form 42 = .ok (.iconst 0, 1) := by decide +kernel
theorem dX2_form_43 : decode cX2_form 43 = .ok (.iastore, 1) := by decide +kernel
theorem dX2_form_44 : decode cX2_form 44 = .ok (.aload_n 0, 1) := by decide +kernel
theorem dX2_form_45 : decode cX2_form 45 = .ok (.iload_n 3, 1) := by decide +kernel
theorem dX2_form_46 : decode cX2_form 46 = .ok (.invokevirtual 53, 3) := by decide +kernel
theorem dX2_form_49 : decode cX2_form 49 = .ok (.iinc 3 1, 3) := by decide +kernel
theorem dX2_form_52 : decode cX2_form 52 = .ok (.goto (-20), 3) := by decide +kernel
theorem dX2_form_55 : decode cX2_form 55 = .ok (.iconst 0, 1) := by decide +kernel
theorem dX2_form_56 : decode cX2_form 56 = .ok (.istore_n 3, 1) := by decide +kernel
theorem dX2_form_57 : decode cX2_form 57 = .ok (.iload_n 3, 1) := by decide +kernel
theorem dX2_form_58 : decode cX2_form 58 = .ok (.aload_n 0, 1) := by decide +kernel
theorem dX2_form_59 : decode cX2_form 59 = .ok (.getfield 40, 3) := by decide +kernel
theorem dX2_form_62 : decode cX2_form 62 = .ok (.if_icmp .gt 34, 3) := by decide +kernel
theorem dX2_form_65 : decode cX2_form 65 = .ok (.iconst 0, 1) := by decide +kernel
theorem dX2_form_66 : decode cX2_form 66 = .ok (.istore 4, 2) := by decide +kernel
theorem dX2_form_68 : decode cX2_form 68 = .ok (.iload 4, 2) := by decide +kernel
theorem dX2_form_70 : decode cX2_form 70 = .ok (.aload_n 0, 1) := by decide +kernel
theorem dX2_form_71 : decode cX2_form 71 = .ok (.getfield 36, 3) := by decide +kernel
theorem dX2_form_74 : decode cX2_form 74 = .ok (.if_icmp .gt 16, 3) := by decide +kernel
theorem dX2_form_77 : decode cX2_form 77 = .ok (.aload_n 0, 1) := by decide +kernel
theorem dX2_form_78 : decode cX2_form 78 = .ok (.iload_n 3, 1) := by decide +kernel
theorem dX2_form_79 : decode cX2_form 79 = .ok (.iload 4, 2) := by decide +kernel
theorem dX2_form_81 : decode cX2_form 81 = .ok (.invokevirtual 57, 3) := by decide +kernel
theorem dX2_form_84 : decode cX2_form 84 = .ok (.iinc 4 1, 3) := by decide +kernel
theorem dX2_form_87 : decode cX2_form 87 = .ok (.goto (-19), 3) := by decide +kernel
theorem dX2_form_90 : decode cX2_form 90 = .ok (.iinc 3 1, 3) := by decide +kernel
theorem dX2_form_93 : decode cX2_form 93 = .ok (.goto (-36), 3) := by decide +kernel
theorem dX2_form_96 : decode cX2_form 96 = .ok (.return_, 1) := by decide +kernel
theorem dX2_placesOf_0 : decode cX2_placesOf 0 = .ok (.iload_n 0, 1) := by decide +kernel
theorem dX2_placesOf_1 : decode cX2_placesOf 1 = .ok (.iload_n 1, 1) := by decide +kernel
theorem dX2_placesOf_2 : decode cX2_placesOf 2 = .ok (.iconst 1, 1) := by decide +kernel
theorem dX2_placesOf_3 : decode cX2_placesOf 3 = .ok (.iadd, 1) := by decide +kernel
theorem dX2_placesOf_4 : decode cX2_placesOf 4 = .ok (.imul, 1) := by decide +kernel
theorem dX2_placesOf_5 : decode cX2_placesOf 5 = .ok (.iload_n 1, 1) := by decide +kernel
theorem dX2_placesOf_6 : decode cX2_placesOf 6 = .ok (.iload_n 0, 1) := by decide +kernel
theorem dX2_placesOf_7 : decode cX2_placesOf 7 = .ok (.iconst 1, 1) := by decide +kernel
theorem dX2_placesOf_8 : decode cX2_placesOf 8 = .ok (.iadd, 1) := by decide +kernel
theorem dX2_placesOf_9 : decode cX2_placesOf 9 = .ok (.imul, 1) := by decide +kernel
theorem dX2_placesOf_10 : decode cX2_placesOf 10 = .ok (.iadd, 1) := by decide +kernel
theorem dX2_placesOf_11 : decode cX2_placesOf 11 = .ok (.ireturn, 1) := by decide +kernel
theorem dX2_all_0 : decode cX2_all 0 = .ok (.aload_n 0, 1) := by decide +kernel
theorem dX2_all_1 : decode cX2_all 1 = .ok (.getfield 47, 3) := by decide +kernel
theorem dX2_all_4 : decode cX2_all 4 = .ok (.invokestatic 61, 3) := by decide +kernel
theorem dX2_all_7 : decode cX2_all 7 = .ok (.ireturn, 1) := by decide +kernel
theorem dX2_setOfAll_0 : decode cX2_setOfAll 0 = .ok (.iconst 1, 1) := by decide +kernel
theorem dX2_setOfAll_1 : decode cX2_setOfAll 1 = .ok (.iload_n 0, 1) := by decide +kernel
theorem dX2_setOfAll_2 : decode cX2_setOfAll 2 = .ok (.ishl, 1) := by decide +kernel
theorem dX2_setOfAll_3 : decode cX2_setOfAll 3 = .ok (.iconst 1, 1) := by decide +kernel
theorem dX2_setOfAll_4 : decode cX2_setOfAll 4 = .ok (.isub, 1) := by decide +kernel
theorem dX2_setOfAll_5 : decode cX2_setOfAll 5 = .ok (.ireturn, 1) := by decide +kernel
theorem dX2_across_0 : decode cX2_across 0 = .ok (.iload_n 1, 1) := by decide +kernel
theorem dX2_across_1 : decode cX2_across 1 = .ok (.aload_n 0, 1) := by decide +kernel
theorem dX2_across_2 : decode cX2_across 2 = .ok (.getfield 36, 3) := by decide +kernel
theorem dX2_across_5 : decode cX2_across 5 = .ok (.imul, 1) := by decide +kernel
theorem dX2_across_6 : decode cX2_across 6 = .ok (.iload_n 2, 1) := by decide +kernel
theorem dX2_across_7 : decode cX2_across 7 = .ok (.iadd, 1) := by decide +kernel
theorem dX2_across_8 : decode cX2_across 8 = .ok (.ireturn, 1) := by decide +kernel
theorem dX2_standing_0 : decode cX2_standing 0 = .ok (.aload_n 0, 1) := by decide +kernel
theorem dX2_standing_1 : decode cX2_standing 1 = .ok (.getfield 36, 3) := by decide +kernel
theorem dX2_standing_4 : decode cX2_standing 4 = .ok (.aload_n 0, 1) := by decide +kernel
theorem dX2_standing_5 : decode cX2_standing 5 = .ok (.getfield 40, 3) := by decide +kernel
theorem dX2_standing_8 : decode cX2_standing 8 = .ok (.iconst 1, 1) := by decide +kernel
theorem dX2_standing_9 : decode cX2_standing 9 = .ok (.iadd, 1) := by decide +kernel
theorem dX2_standing_10 : decode cX2_standing 10 = .ok (.imul, 1) := by decide +kernel
theorem dX2_standing_11 : decode cX2_standing 11 = .ok (.iload_n 1, 1) := by decide +kernel
theorem dX2_standing_12 : decode cX2_standing 12 = .ok (.aload_n 0, 1) := by decide +kernel
theorem dX2_standing_13 : decode cX2_standing 13 = .ok (.getfield 36, 3) := by decide +kernel
theorem dX2_standing_16 : decode cX2_standing 16 = .ok (.iconst 1, 1) := by decide +kernel
theorem dX2_standing_17 : decode cX2_standing 17 = .ok (.iadd, 1) := by decide +kernel
theorem dX2_standing_18 : decode cX2_standing 18 = .ok (.imul, 1) := by decide +kernel
theorem dX2_standing_19 : decode cX2_standing 19 = .ok (.iadd, 1) := by decide +kernel
theorem dX2_standing_20 : decode cX2_standing 20 = .ok (.iload_n 2, 1) := by decide +kernel
theorem dX2_standing_21 : decode cX2_standing 21 = .ok (.iadd, 1) := by decide +kernel
theorem dX2_standing_22 : decode cX2_standing 22 = .ok (.ireturn, 1) := by decide +kernel
theorem dX2_addSquares_0 : decode cX2_addSquares 0 = .ok (.iconst 0, 1) := by decide +kernel
theorem dX2_addSquares_1 : decode cX2_addSquares 1 = .ok (.istore_n 2, 1) := by decide +kernel
theorem dX2_addSquares_2 : decode cX2_addSquares 2 = .ok (.iload_n 2, 1) := by decide +kernel
theorem dX2_addSquares_3 : decode cX2_addSquares 3 = .ok (.iload_n 1, 1) := by decide +kernel
theorem dX2_addSquares_4 : decode cX2_addSquares 4 = .ok (.iadd, 1) := by decide +kernel
theorem dX2_addSquares_5 : decode cX2_addSquares 5 = .ok (.aload_n 0, 1) := by decide +kernel
theorem dX2_addSquares_6 : decode cX2_addSquares 6 = .ok (.getfield 40, 3) := by decide +kernel
theorem dX2_addSquares_9 : decode cX2_addSquares 9 = .ok (.if_icmp .gt 107, 3) := by decide +kernel
theorem dX2_addSquares_12 : decode cX2_addSquares 12 = .ok (.iconst 0, 1) := by decide +kernel
theorem dX2_addSquares_13 : decode cX2_addSquares 13 = .ok (.istore_n 3, 1) := by decide +kernel
theorem dX2_addSquares_14 : decode cX2_addSquares 14 = .ok (.iload_n 3, 1) := by decide +kernel
theorem dX2_addSquares_15 : decode cX2_addSquares 15 = .ok (.iload_n 1, 1) := by decide +kernel
theorem dX2_addSquares_16 : decode cX2_addSquares 16 = .ok (.iadd, 1) := by decide +kernel
theorem dX2_addSquares_17 : decode cX2_addSquares 17 = .ok (.aload_n 0, 1) := by decide +kernel
theorem dX2_addSquares_18 : decode cX2_addSquares 18 = .ok (.getfield 36, 3) := by decide +kernel
theorem dX2_addSquares_21 : decode cX2_addSquares 21 = .ok (.if_icmp .gt 89, 3) := by decide +kernel
theorem dX2_addSquares_24 : decode cX2_addSquares 24 = .ok (.aload_n 0, 1) := by decide +kernel
theorem dX2_addSquares_25 : decode cX2_addSquares 25 = .ok (.getfield 50, 3) := by decide +kernel
theorem dX2_addSquares_28 : decode cX2_addSquares 28 = .ok (.bipush 20, 2) := by decide +kernel
theorem dX2_addSquares_30 : decode cX2_addSquares 30 = .ok (.if_icmp .ge 80, 3) := by decide +kernel
theorem dX2_addSquares_33 : decode cX2_addSquares 33 = .ok (.aload_n 0, 1) := by decide +kernel
theorem dX2_addSquares_34 : decode cX2_addSquares 34 = .ok (.getfield 9, 3) := by decide +kernel
theorem dX2_addSquares_37 : decode cX2_addSquares 37 = .ok (.aload_n 0, 1) := by decide +kernel
theorem dX2_addSquares_38 : decode cX2_addSquares 38 = .ok (.getfield 50, 3) := by decide +kernel
theorem dX2_addSquares_41 : decode cX2_addSquares 41 = .ok (.iload_n 1, 1) := by decide +kernel
theorem dX2_addSquares_42 : decode cX2_addSquares 42 = .ok (.iastore, 1) := by decide +kernel
theorem dX2_addSquares_43 : decode cX2_addSquares 43 = .ok (.aload_n 0, 1) := by decide +kernel
theorem dX2_addSquares_44 : decode cX2_addSquares 44 = .ok (.getfield 15, 3) := by decide +kernel
theorem dX2_addSquares_47 : decode cX2_addSquares 47 = .ok (.aload_n 0, 1) := by decide +kernel
theorem dX2_addSquares_48 : decode cX2_addSquares 48 = .ok (.getfield 50, 3) := by decide +kernel
theorem dX2_addSquares_51 : decode cX2_addSquares 51 = .ok (.iload_n 2, 1) := by decide +kernel
theorem dX2_addSquares_52 : decode cX2_addSquares 52 = .ok (.iastore, 1) := by decide +kernel
theorem dX2_addSquares_53 : decode cX2_addSquares 53 = .ok (.aload_n 0, 1) := by decide +kernel
theorem dX2_addSquares_54 : decode cX2_addSquares 54 = .ok (.getfield 18, 3) := by decide +kernel
theorem dX2_addSquares_57 : decode cX2_addSquares 57 = .ok (.aload_n 0, 1) := by decide +kernel
theorem dX2_addSquares_58 : decode cX2_addSquares 58 = .ok (.getfield 50, 3) := by decide +kernel
theorem dX2_addSquares_61 : decode cX2_addSquares 61 = .ok (.iload_n 3, 1) := by decide +kernel
theorem dX2_addSquares_62 : decode cX2_addSquares 62 = .ok (.iastore, 1) := by decide +kernel
theorem dX2_addSquares_63 : decode cX2_addSquares 63 = .ok (.aload_n 0, 1) := by decide +kernel
theorem dX2_addSquares_64 : decode cX2_addSquares 64 = .ok (.getfield 21, 3) := by decide +kernel
theorem dX2_addSquares_67 : decode cX2_addSquares 67 = .ok (.aload_n 0, 1) := by decide +kernel
theorem dX2_addSquares_68 : decode cX2_addSquares 68 = .ok (.getfield 50, 3) := by decide +kernel
theorem dX2_addSquares_71 : decode cX2_addSquares 71 = .ok (.aload_n 0, 1) := by decide +kernel
theorem dX2_addSquares_72 : decode cX2_addSquares 72 = .ok (.iload_n 1, 1) := by decide +kernel
theorem dX2_addSquares_73 : decode cX2_addSquares 73 = .ok (.iload_n 2, 1) := by decide +kernel
theorem dX2_addSquares_74 : decode cX2_addSquares 74 = .ok (.iload_n 3, 1) := by decide +kernel
theorem dX2_addSquares_75 : decode cX2_addSquares 75 = .ok (.invokevirtual 65, 3) := by decide +kernel
theorem dX2_addSquares_78 : decode cX2_addSquares 78 = .ok (.iastore, 1) := by decide +kernel
theorem dX2_addSquares_79 : decode cX2_addSquares 79 = .ok (.aload_n 0, 1) := by decide +kernel
theorem dX2_addSquares_80 : decode cX2_addSquares 80 = .ok (.getfield 24, 3) := by decide +kernel
theorem dX2_addSquares_83 : decode cX2_addSquares 83 = .ok (.iload_n 1, 1) := by decide +kernel
theorem dX2_addSquares_84 : decode cX2_addSquares 84 = .ok (.dup2, 1) := by decide +kernel
theorem dX2_addSquares_85 : decode cX2_addSquares 85 = .ok (.iaload, 1) := by decide +kernel
theorem dX2_addSquares_86 : decode cX2_addSquares 86 = .ok (.iconst 1, 1) := by decide +kernel
theorem dX2_addSquares_87 : decode cX2_addSquares 87 = .ok (.aload_n 0, 1) := by decide +kernel
theorem dX2_addSquares_88 : decode cX2_addSquares 88 = .ok (.getfield 50, 3) := by decide +kernel
theorem dX2_addSquares_91 : decode cX2_addSquares 91 = .ok (.ishl, 1) := by decide +kernel
theorem dX2_addSquares_92 : decode cX2_addSquares 92 = .ok (.ior, 1) := by decide +kernel
theorem dX2_addSquares_93 : decode cX2_addSquares 93 = .ok (.iastore, 1) := by decide +kernel
theorem dX2_addSquares_94 : decode cX2_addSquares 94 = .ok (.aload_n 0, 1) := by decide +kernel
theorem dX2_addSquares_95 : decode cX2_addSquares 95 = .ok (.dup, 1) := by decide +kernel
theorem dX2_addSquares_96 : decode cX2_addSquares 96 = .ok (.getfield 50, 3) := by decide +kernel
theorem dX2_addSquares_99 : decode cX2_addSquares 99 = .ok (.iconst 1, 1) := by decide +kernel
theorem dX2_addSquares_100 : decode cX2_addSquares 100 = .ok (.iadd, 1) := by decide +kernel
theorem dX2_addSquares_101 : decode cX2_addSquares 101 = .ok (.putfield 50, 3) := by decide +kernel
theorem dX2_addSquares_104 : decode cX2_addSquares 104 = .ok (.iinc 3 1, 3) := by decide +kernel
theorem dX2_addSquares_107 : decode cX2_addSquares 107 = .ok (.goto (-93), 3) := by decide +kernel
theorem dX2_addSquares_110 : decode cX2_addSquares 110 = .ok (.iinc 2 1, 3) := by decide +kernel
theorem dX2_addSquares_113 : decode cX2_addSquares 113 = .ok (.goto (-111), 3) := by decide +kernel
theorem dX2_addSquares_116 : decode cX2_addSquares 116 = .ok (.return_, 1) := by decide +kernel
theorem dX2_rimOf_0 : decode cX2_rimOf 0 = .ok (.iconst 0, 1) := by decide +kernel
theorem dX2_rimOf_1 : decode cX2_rimOf 1 = .ok (.istore 4, 2) := by decide +kernel
theorem dX2_rimOf_3 : decode cX2_rimOf 3 = .ok (.iconst 0, 1) := by decide +kernel
theorem dX2_rimOf_4 : decode cX2_rimOf 4 = .ok (.istore 5, 2) := by decide +kernel
theorem dX2_rimOf_6 : decode cX2_rimOf 6 = .ok (.iload 5, 2) := by decide +kernel
theorem dX2_rimOf_8 : decode cX2_rimOf 8 = .ok (.iload_n 1, 1) := by decide +kernel
theorem dX2_rimOf_9 : decode cX2_rimOf 9 = .ok (.if_icmp .ge 77, 3) := by decide +kernel
theorem dX2_rimOf_12 : decode cX2_rimOf 12 = .ok (.iload 4, 2) := by decide +kernel
theorem dX2_rimOf_14 : decode cX2_rimOf 14 = .ok (.iconst 1, 1) := by decide +kernel
theorem dX2_rimOf_15 : decode cX2_rimOf 15 = .ok (.aload_n 0, 1) := by decide +kernel
theorem dX2_rimOf_16 : decode cX2_rimOf 16 = .ok (.iload_n 2, 1) := by decide +kernel
theorem dX2_rimOf_17 : decode cX2_rimOf 17 = .ok (.iload_n 3, 1) := by decide +kernel
theorem dX2_rimOf_18 : decode cX2_rimOf 18 = .ok (.iload 5, 2) := by decide +kernel
theorem dX2_rimOf_20 : decode cX2_rimOf 20 = .ok (.iadd, 1) := by decide +kernel
theorem dX2_rimOf_21 : decode cX2_rimOf 21 = .ok (.invokevirtual 69, 3) := by decide +kernel
theorem dX2_rimOf_24 : decode cX2_rimOf 24 = .ok (.ishl, 1) := by decide +kernel
theorem dX2_rimOf_25 : decode cX2_rimOf 25 = .ok (.ior, 1) := by decide +kernel
theorem dX2_rimOf_26 : decode cX2_rimOf 26 = .ok (.istore 4, 2) := by decide +kernel
theorem dX2_rimOf_28 : decode cX2_rimOf 28 = .ok (.iload 4, 2) := by decide +kernel
theorem dX2_rimOf_30 : decode cX2_rimOf 30 = .ok (.iconst 1, 1) := by decide +kernel
theorem dX2_rimOf_31 : decode cX2_rimOf 31 = .ok (.aload_n 0, 1) := by decide +kernel
theorem dX2_rimOf_32 : decode cX2_rimOf 32 = .ok (.iload_n 2, 1) := by decide +kernel
theorem dX2_rimOf_33 : decode cX2_rimOf 33 = .ok (.iload_n 1, 1) := by decide +kernel
theorem dX2_rimOf_34 : decode cX2_rimOf 34 = .ok (.iadd, 1) := by decide +kernel
theorem dX2_rimOf_35 : decode cX2_rimOf 35 = .ok (.iload_n 3, 1) := by decide +kernel
theorem dX2_rimOf_36 : decode cX2_rimOf 36 = .ok (.iload 5, 2) := by decide +kernel
theorem dX2_rimOf_38 : decode cX2_rimOf 38 = .ok (.iadd, 1) := by decide +kernel
theorem dX2_rimOf_39 : decode cX2_rimOf 39 = .ok (.invokevirtual 69, 3) := by decide +kernel
theorem dX2_rimOf_42 : decode cX2_rimOf 42 = .ok (.ishl, 1) := by decide +kernel
theorem dX2_rimOf_43 : decode cX2_rimOf 43 = .ok (.ior, 1) := by decide +kernel
theorem dX2_rimOf_44 : decode cX2_rimOf 44 = .ok (.istore 4, 2) := by decide +kernel
theorem dX2_rimOf_46 : decode cX2_rimOf 46 = .ok (.iload 4, 2) := by decide +kernel
theorem dX2_rimOf_48 : decode cX2_rimOf 48 = .ok (.iconst 1, 1) := by decide +kernel
theorem dX2_rimOf_49 : decode cX2_rimOf 49 = .ok (.aload_n 0, 1) := by decide +kernel
theorem dX2_rimOf_50 : decode cX2_rimOf 50 = .ok (.iload_n 2, 1) := by decide +kernel
theorem dX2_rimOf_51 : decode cX2_rimOf 51 = .ok (.iload 5, 2) := by decide +kernel
theorem dX2_rimOf_53 : decode cX2_rimOf 53 = .ok (.iadd, 1) := by decide +kernel
theorem dX2_rimOf_54 : decode cX2_rimOf 54 = .ok (.iload_n 3, 1) := by decide +kernel
theorem dX2_rimOf_55 : decode cX2_rimOf 55 = .ok (.invokevirtual 72, 3) := by decide +kernel
theorem dX2_rimOf_58 : decode cX2_rimOf 58 = .ok (.ishl, 1) := by decide +kernel
theorem dX2_rimOf_59 : decode cX2_rimOf 59 = .ok (.ior, 1) := by decide +kernel
theorem dX2_rimOf_60 : decode cX2_rimOf 60 = .ok (.istore 4, 2) := by decide +kernel
theorem dX2_rimOf_62 : decode cX2_rimOf 62 = .ok (.iload 4, 2) := by decide +kernel
theorem dX2_rimOf_64 : decode cX2_rimOf 64 = .ok (.iconst 1, 1) := by decide +kernel
theorem dX2_rimOf_65 : decode cX2_rimOf 65 = .ok (.aload_n 0, 1) := by decide +kernel
theorem dX2_rimOf_66 : decode cX2_rimOf 66 = .ok (.iload_n 2, 1) := by decide +kernel
theorem dX2_rimOf_67 : decode cX2_rimOf 67 = .ok (.iload 5, 2) := by decide +kernel
theorem dX2_rimOf_69 : decode cX2_rimOf 69 = .ok (.iadd, 1) := by decide +kernel
theorem dX2_rimOf_70 : decode cX2_rimOf 70 = .ok (.iload_n 3, 1) := by decide +kernel
theorem dX2_rimOf_71 : decode cX2_rimOf 71 = .ok (.iload_n 1, 1) := by decide +kernel
theorem dX2_rimOf_72 : decode cX2_rimOf 72 = .ok (.iadd, 1) := by decide +kernel
theorem dX2_rimOf_73 : decode cX2_rimOf 73 = .ok (.invokevirtual 72, 3) := by decide +kernel
theorem dX2_rimOf_76 : decode cX2_rimOf 76 = .ok (.ishl, 1) := by decide +kernel
theorem dX2_rimOf_77 : decode cX2_rimOf 77 = .ok (.ior, 1) := by decide +kernel
theorem dX2_rimOf_78 : decode cX2_rimOf 78 = .ok (.istore 4, 2) := by decide +kernel
theorem dX2_rimOf_80 : decode cX2_rimOf 80 = .ok (.iinc 5 1, 3) := by decide +kernel
theorem dX2_rimOf_83 : decode cX2_rimOf 83 = .ok (.goto (-77), 3) := by decide +kernel
theorem dX2_rimOf_86 : decode cX2_rimOf 86 = .ok (.iload 4, 2) := by decide +kernel
theorem dX2_rimOf_88 : decode cX2_rimOf 88 = .ok (.ireturn, 1) := by decide +kernel
theorem dX2_turnPlaces_0 : decode cX2_turnPlaces 0 = .ok (.aload_n 0, 1) := by decide +kernel
theorem dX2_turnPlaces_1 : decode cX2_turnPlaces 1 = .ok (.getfield 36, 3) := by decide +kernel
theorem dX2_turnPlaces_4 : decode cX2_turnPlaces 4 = .ok (.aload_n 0, 1) := by decide +kernel
theorem dX2_turnPlaces_5 : decode cX2_turnPlaces 5 = .ok (.getfield 40, 3) := by decide +kernel
theorem dX2_turnPlaces_8 : decode cX2_turnPlaces 8 = .ok (.if_icmp .ne 7, 3) := by decide +kernel
theorem dX2_turnPlaces_11 : decode cX2_turnPlaces 11 = .ok (.iconst 1, 1) := by decide +kernel
theorem dX2_turnPlaces_12 : decode cX2_turnPlaces 12 = .ok (.goto 4, 3) := by decide +kernel
theorem dX2_turnPlaces_15 : decode cX2_turnPlaces 15 = .ok (.iconst 0, 1) := by decide +kernel
theorem dX2_turnPlaces_16 : decode cX2_turnPlaces 16 = .ok (.istore_n 3, 1) := by decide +kernel
theorem dX2_turnPlaces_17 : decode cX2_turnPlaces 17 = .ok (.iload_n 2, 1) := by decide +kernel
theorem dX2_turnPlaces_18 : decode cX2_turnPlaces 18 = .ok (.aload_n 0, 1) := by decide +kernel
theorem dX2_turnPlaces_19 : decode cX2_turnPlaces 19 = .ok (.getfield 36, 3) := by decide +kernel
theorem dX2_turnPlaces_22 : decode cX2_turnPlaces 22 = .ok (.if_icmp .ge 71, 3) := by decide +kernel
theorem dX2_turnPlaces_25 : decode cX2_turnPlaces 25 = .ok (.aload_n 0, 1) := by decide +kernel
theorem dX2_turnPlaces_26 : decode cX2_turnPlaces 26 = .ok (.iload_n 1, 1) := by decide +kernel
theorem dX2_turnPlaces_27 : decode cX2_turnPlaces 27 = .ok (.iload_n 2, 1) := by decide +kernel
theorem dX2_turnPlaces_28 : decode cX2_turnPlaces 28 = .ok (.invokevirtual 69, 3) := by decide +kernel
theorem dX2_turnPlaces_31 : decode cX2_turnPlaces 31 = .ok (.istore 4, 2) := by decide +kernel
theorem dX2_turnPlaces_33 : decode cX2_turnPlaces 33 = .ok (.aload_n 0, 1) := by decide +kernel
theorem dX2_turnPlaces_34 : decode cX2_turnPlaces 34 = .ok (.getfield 27, 3) := by decide +kernel
theorem dX2_turnPlaces_37 : decode cX2_turnPlaces 37 = .ok (.iload 4, 2) := by decide +kernel
theorem dX2_turnPlaces_39 : decode cX2_turnPlaces 39 = .ok (.aload_n 0, 1) := by decide +kernel
theorem dX2_turnPlaces_40 : decode cX2_turnPlaces 40 = .ok (.iload_n 1, 1) := by decide +kernel
theorem dX2_turnPlaces_41 : decode cX2_turnPlaces 41 = .ok (.aload_n 0, 1) := by decide +kernel
theorem dX2_turnPlaces_42 : decode cX2_turnPlaces 42 = .ok (.getfield 36, 3) := by decide +kernel
theorem dX2_turnPlaces_45 : decode cX2_turnPlaces 45 = .ok (.iconst 1, 1) := by decide +kernel
theorem dX2_turnPlaces_46 : decode cX2_turnPlaces 46 = .ok (.isub, 1) := by decide +kernel
theorem dX2_turnPlaces_47 : decode cX2_turnPlaces 47 = .ok (.iload_n 2, 1) := by decide +kernel
theorem dX2_turnPlaces_48 : decode cX2_turnPlaces 48 = .ok (.isub, 1) := by decide +kernel
theorem dX2_turnPlaces_49 : decode cX2_turnPlaces 49 = .ok (.invokevirtual 69, 3) := by decide +kernel
theorem dX2_turnPlaces_52 : decode cX2_turnPlaces 52 = .ok (.iastore, 1) := by decide +kernel
theorem dX2_turnPlaces_53 : decode cX2_turnPlaces 53 = .ok (.aload_n 0, 1) := by decide +kernel
theorem dX2_turnPlaces_54 : decode cX2_turnPlaces 54 = .ok (.getfield 30, 3) := by decide +kernel
theorem dX2_turnPlaces_57 : decode cX2_turnPlaces 57 = .ok (.iload 4, 2) := by decide +kernel
theorem dX2_turnPlaces_59 : decode cX2_turnPlaces 59 = .ok (.aload_n 0, 1) := by decide +kernel
theorem dX2_turnPlaces_60 : decode cX2_turnPlaces 60 = .ok (.aload_n 0, 1) := by decide +kernel
theorem dX2_turnPlaces_61 : decode cX2_turnPlaces 61 = .ok (.getfield 40, 3) := by decide +kernel
theorem dX2_turnPlaces_64 : decode cX2_turnPlaces 64 = .ok (.iload_n 1, 1) := by decide +kernel
theorem dX2_turnPlaces_65 : decode cX2_turnPlaces 65 = .ok (.isub, 1) := by decide +kernel
theorem dX2_turnPlaces_66 : decode cX2_turnPlaces 66 = .ok (.iload_n 2, 1) := by decide +kernel
theorem dX2_turnPlaces_67 : decode cX2_turnPlaces 67 = .ok (.invokevirtual 69, 3) := by decide +kernel
theorem dX2_turnPlaces_70 : decode cX2_turnPlaces 70 = .ok (.iastore, 1) := by decide +kernel
theorem dX2_turnPlaces_71 : decode cX2_turnPlaces 71 = .ok (.aload_n 0, 1) := by decide +kernel
theorem dX2_turnPlaces_72 : decode cX2_turnPlaces 72 = .ok (.getfield 33, 3) := by decide +kernel
theorem dX2_turnPlaces_75 : decode cX2_turnPlaces 75 = .ok (.iload 4, 2) := by decide +kernel
theorem dX2_turnPlaces_77 : decode cX2_turnPlaces 77 = .ok (.iload_n 3, 1) := by decide +kernel
theorem dX2_turnPlaces_78 : decode cX2_turnPlaces 78 = .ok (.ifCond .eq 12, 3) := by decide +kernel
theorem dX2_turnPlaces_81 : decode cX2_turnPlaces 81 = .ok (.aload_n 0, 1) := by decide +kernel
theorem dX2_turnPlaces_82 : decode cX2_turnPlaces 82 = .ok (.iload_n 2, 1) := by decide +kernel
theorem dX2_turnPlaces_83 : decode cX2_turnPlaces 83 = .ok (.iload_n 1, 1) := by decide +kernel
theorem dX2_turnPlaces_84 : decode cX2_turnPlaces 84 = .ok (.invokevirtual 72, 3) := by decide +kernel
theorem dX2_turnPlaces_87 : decode cX2_turnPlaces 87 = .ok (.goto 5, 3) := by decide +kernel
theorem dX2_turnPlaces_90 : decode cX2_turnPlaces 90 = .ok (.iload 4, 2) := by decide +kernel
theorem dX2_turnPlaces_92 : decode cX2_turnPlaces 92 = .ok (.iastore, 1) := by decide +kernel
theorem dX2_turnPlaces_93 : decode cX2_turnPlaces 93 = .ok (.iload_n 1, 1) := by decide +kernel
theorem dX2_turnPlaces_94 : decode cX2_turnPlaces 94 = .ok (.aload_n 0, 1) := by decide +kernel
theorem dX2_turnPlaces_95 : decode cX2_turnPlaces 95 = .ok (.getfield 40, 3) := by decide +kernel
theorem dX2_turnPlaces_98 : decode cX2_turnPlaces 98 = .ok (.if_icmp .ge 71, 3) := by decide +kernel
theorem dX2_turnPlaces_101 : decode cX2_turnPlaces 101 = .ok (.aload_n 0, 1) := by decide +kernel
theorem dX2_turnPlaces_102 : decode cX2_turnPlaces 102 = .ok (.iload_n 1, 1) := by decide +kernel
theorem dX2_turnPlaces_103 : decode cX2_turnPlaces 103 = .ok (.iload_n 2, 1) := by decide +kernel
theorem dX2_turnPlaces_104 : decode cX2_turnPlaces 104 = .ok (.invokevirtual 72, 3) := by decide +kernel
theorem dX2_turnPlaces_107 : decode cX2_turnPlaces 107 = .ok (.istore 4, 2) := by decide +kernel
theorem dX2_turnPlaces_109 : decode cX2_turnPlaces 109 = .ok (.aload_n 0, 1) := by decide +kernel
theorem dX2_turnPlaces_110 : decode cX2_turnPlaces 110 = .ok (.getfield 27, 3) := by decide +kernel
theorem dX2_turnPlaces_113 : decode cX2_turnPlaces 113 = .ok (.iload 4, 2) := by decide +kernel
theorem dX2_turnPlaces_115 : decode cX2_turnPlaces 115 = .ok (.aload_n 0, 1) := by decide +kernel
theorem dX2_turnPlaces_116 : decode cX2_turnPlaces 116 = .ok (.iload_n 1, 1) := by decide +kernel
theorem dX2_turnPlaces_117 : decode cX2_turnPlaces 117 = .ok (.aload_n 0, 1) := by decide +kernel
theorem dX2_turnPlaces_118 : decode cX2_turnPlaces 118 = .ok (.getfield 36, 3) := by decide +kernel
theorem dX2_turnPlaces_121 : decode cX2_turnPlaces 121 = .ok (.iload_n 2, 1) := by decide +kernel
theorem dX2_turnPlaces_122 : decode cX2_turnPlaces 122 = .ok (.isub, 1) := by decide +kernel
theorem dX2_turnPlaces_123 : decode cX2_turnPlaces 123 = .ok (.invokevirtual 72, 3) := by decide +kernel
theorem dX2_turnPlaces_126 : decode cX2_turnPlaces 126 = .ok (.iastore, 1) := by decide +kernel
theorem dX2_turnPlaces_127 : decode cX2_turnPlaces 127 = .ok (.aload_n 0, 1) := by decide +kernel
theorem dX2_turnPlaces_128 : decode cX2_turnPlaces 128 = .ok (.getfield 30, 3) := by decide +kernel
theorem dX2_turnPlaces_131 : decode cX2_turnPlaces 131 = .ok (.iload 4, 2) := by decide +kernel
theorem dX2_turnPlaces_133 : decode cX2_turnPlaces 133 = .ok (.aload_n 0, 1) := by decide +kernel
theorem dX2_turnPlaces_134 : decode cX2_turnPlaces 134 = .ok (.aload_n 0, 1) := by decide +kernel
theorem dX2_turnPlaces_135 : decode cX2_turnPlaces 135 = .ok (.getfield 40, 3) := by decide +kernel
theorem dX2_turnPlaces_138 : decode cX2_turnPlaces 138 = .ok (.iconst 1, 1) := by decide +kernel
theorem dX2_turnPlaces_139 : decode cX2_turnPlaces 139 = .ok (.isub, 1) := by decide +kernel
theorem dX2_turnPlaces_140 : decode cX2_turnPlaces 140 = .ok (.iload_n 1, 1) := by decide +kernel
theorem dX2_turnPlaces_141 : decode cX2_turnPlaces 141 = .ok (.isub, 1) := by decide +kernel
theorem dX2_turnPlaces_142 : decode cX2_turnPlaces 142 = .ok (.iload_n 2, 1) := by decide +kernel
theorem dX2_turnPlaces_143 : decode cX2_turnPlaces 143 = .ok (.invokevirtual 72, 3) := by decide +kernel
theorem dX2_turnPlaces_146 : decode cX2_turnPlaces 146 = .ok (.iastore, 1) := by decide +kernel
theorem dX2_turnPlaces_147 : decode cX2_turnPlaces 147 = .ok (.aload_n 0, 1) := by decide +kernel
theorem dX2_turnPlaces_148 : decode cX2_turnPlaces 148 = .ok (.getfield 33, 3) := by decide +kernel
theorem dX2_turnPlaces_151 : decode cX2_turnPlaces 151 = .ok (.iload 4, 2) := by decide +kernel
theorem dX2_turnPlaces_153 : decode cX2_turnPlaces 153 = .ok (.iload_n 3, 1) := by decide +kernel
theorem dX2_turnPlaces_154 : decode cX2_turnPlaces 154 = .ok (.ifCond .eq 12, 3) := by decide +kernel
theorem dX2_turnPlaces_157 : decode cX2_turnPlaces 157 = .ok (.aload_n 0, 1) := by decide +kernel
theorem dX2_turnPlaces_158 : decode cX2_turnPlaces 158 = .ok (.iload_n 2, 1) := by decide +kernel
theorem dX2_turnPlaces_159 : decode cX2_turnPlaces 159 = .ok (.iload_n 1, 1) := by decide +kernel
theorem dX2_turnPlaces_160 : decode cX2_turnPlaces 160 = .ok (.invokevirtual 69, 3) := by decide +kernel
theorem dX2_turnPlaces_163 : decode cX2_turnPlaces 163 = .ok (.goto 5, 3) := by decide +kernel
theorem dX2_turnPlaces_166 : decode cX2_turnPlaces 166 = .ok (.iload 4, 2) := by decide +kernel
theorem dX2_turnPlaces_168 : decode cX2_turnPlaces 168 = .ok (.iastore, 1) := by decide +kernel
theorem dX2_turnPlaces_169 : decode cX2_turnPlaces 169 = .ok (.return_, 1) := by decide +kernel
theorem dX2_moved_0 : decode cX2_moved 0 = .ok (.iconst 0, 1) := by decide +kernel
theorem dX2_moved_1 : decode cX2_moved 1 = .ok (.istore_n 3, 1) := by decide +kernel
theorem dX2_moved_2 : decode cX2_moved 2 = .ok (.iconst 0, 1) := by decide +kernel
theorem dX2_moved_3 : decode cX2_moved 3 = .ok (.istore 4, 2) := by decide +kernel
theorem dX2_moved_5 : decode cX2_moved 5 = .ok (.iload 4, 2) := by decide +kernel
theorem dX2_moved_7 : decode cX2_moved 7 = .ok (.aload_n 0, 1) := by decide +kernel
theorem dX2_moved_8 : decode cX2_moved 8 = .ok (.getfield 47, 3) := by decide +kernel
theorem dX2_moved_11 : decode cX2_moved 11 = .ok (.if_icmp .ge 27, 3) := by decide +kernel
theorem dX2_moved_14 : decode cX2_moved 14 = .ok (.iload_n 1, 1) := by decide +kernel
theorem dX2_moved_15 : decode cX2_moved 15 = .ok (.iload 4, 2) := by decide +kernel
theorem dX2_moved_17 : decode cX2_moved 17 = .ok (.ishr, 1) := by decide +kernel
theorem dX2_moved_18 : decode cX2_moved 18 = .ok (.iconst 1, 1) := by decide +kernel
theorem dX2_moved_19 : decode cX2_moved 19 = .ok (.iand, 1) := by decide +kernel
theorem dX2_moved_20 : decode cX2_moved 20 = .ok (.ifCond .eq 12, 3) := by decide +kernel
theorem dX2_moved_23 : decode cX2_moved 23 = .ok (.iload_n 3, 1) := by decide +kernel
theorem dX2_moved_24 : decode cX2_moved 24 = .ok (.iconst 1, 1) := by decide +kernel
theorem dX2_moved_25 : decode cX2_moved 25 = .ok (.aload_n 2, 1) := by decide +kernel
theorem dX2_moved_26 : decode cX2_moved 26 = .ok (.iload 4, 2) := by decide +kernel
theorem dX2_moved_28 : decode cX2_moved 28 = .ok (.iaload, 1) := by decide +kernel
theorem dX2_moved_29 : decode cX2_moved 29 = .ok (.ishl, 1) := by decide +kernel
theorem dX2_moved_30 : decode cX2_moved 30 = .ok (.ior, 1) := by decide +kernel
theorem dX2_moved_31 : decode cX2_moved 31 = .ok (.istore_n 3, 1) := by decide +kernel
theorem dX2_moved_32 : decode cX2_moved 32 = .ok (.iinc 4 1, 3) := by decide +kernel
theorem dX2_moved_35 : decode cX2_moved 35 = .ok (.goto (-30), 3) := by decide +kernel
theorem dX2_moved_38 : decode cX2_moved 38 = .ok (.iload_n 3, 1) := by decide +kernel
theorem dX2_moved_39 : decode cX2_moved 39 = .ok (.ireturn, 1) := by decide +kernel
theorem dX2_mirrorsInto_0 : decode cX2_mirrorsInto 0 = .ok (.aload_n 0, 1) := by decide +kernel
theorem dX2_mirrorsInto_1 : decode cX2_mirrorsInto 1 = .ok (.iload_n 1, 1) := by decide +kernel
theorem dX2_mirrorsInto_2 : decode cX2_mirrorsInto 2 = .ok (.aload_n 0, 1) := by decide +kernel
theorem dX2_mirrorsInto_3 : decode cX2_mirrorsInto 3 = .ok (.getfield 30, 3) := by decide +kernel
theorem dX2_mirrorsInto_6 : decode cX2_mirrorsInto 6 = .ok (.invokevirtual 75, 3) := by decide +kernel
theorem dX2_mirrorsInto_9 : decode cX2_mirrorsInto 9 = .ok (.istore_n 3, 1) := by decide +kernel
theorem dX2_mirrorsInto_10 : decode cX2_mirrorsInto 10 = .ok (.iload_n 1, 1) := by decide +kernel
theorem dX2_mirrorsInto_11 : decode cX2_mirrorsInto 11 = .ok (.iload_n 2, 1) := by decide +kernel
theorem dX2_mirrorsInto_12 : decode cX2_mirrorsInto 12 = .ok (.if_icmp .eq 34, 3) := by decide +kernel
theorem dX2_mirrorsInto_15 : decode cX2_mirrorsInto 15 = .ok (.iload_n 3, 1) := by decide +kernel
theorem dX2_mirrorsInto_16 : decode cX2_mirrorsInto 16 = .ok (.iload_n 2, 1) := by decide +kernel
theorem dX2_mirrorsInto_17 : decode cX2_mirrorsInto 17 = .ok (.if_icmp .eq 29, 3) := by decide +kernel
theorem dX2_mirrorsInto_20 : decode cX2_mirrorsInto 20 = .ok (.aload_n 0, 1) := by decide +kernel
theorem dX2_mirrorsInto_21 : decode cX2_mirrorsInto 21 = .ok (.iload_n 1, 1) := by decide +kernel
theorem dX2_mirrorsInto_22 : decode cX2_mirrorsInto 22 = .ok (.aload_n 0, 1) := by decide +kernel
theorem dX2_mirrorsInto_23 : decode cX2_mirrorsInto 23 = .ok (.getfield 27, 3) := by decide +kernel
theorem dX2_mirrorsInto_26 : decode cX2_mirrorsInto 26 = .ok (.invokevirtual 75, 3) := by decide +kernel
theorem dX2_mirrorsInto_29 : decode cX2_mirrorsInto 29 = .ok (.iload_n 2, 1) := by decide +kernel
theorem dX2_mirrorsInto_30 : decode cX2_mirrorsInto 30 = .ok (.if_icmp .eq 16, 3) := by decide +kernel
theorem dX2_mirrorsInto_33 : decode cX2_mirrorsInto 33 = .ok (.aload_n 0, 1) := by decide +kernel
theorem dX2_mirrorsInto_34 : decode cX2_mirrorsInto 34 = .ok (.iload_n 3, 1) := by decide +kernel
theorem dX2_mirrorsInto_35 : decode cX2_mirrorsInto 35 = .ok (.aload_n 0, 1) := by decide +kernel
theorem dX2_mirrorsInto_36 : decode cX2_mirrorsInto 36 = .ok (.getfield 27, 3) := by decide +kernel
theorem dX2_mirrorsInto_39 : decode cX2_mirrorsInto 39 = .ok (.invokevirtual 75, 3) := by decide +kernel
theorem dX2_mirrorsInto_42 : decode cX2_mirrorsInto 42 = .ok (.iload_n 2, 1) := by decide +kernel
theorem dX2_mirrorsInto_43 : decode cX2_mirrorsInto 43 = .ok (.if_icmp .ne 7, 3) := by decide +kernel
theorem dX2_mirrorsInto_46 : decode cX2_mirrorsInto 46 = .ok (.iconst 1, 1) := by decide +kernel
theorem dX2_mirrorsInto_47 : decode cX2_mirrorsInto 47 = .ok (.goto 4, 3) := by decide +kernel
theorem dX2_mirrorsInto_50 : decode cX2_mirrorsInto 50 = .ok (.iconst 0, 1) := by decide +kernel
theorem dX2_mirrorsInto_51 : decode cX2_mirrorsInto 51 = .ok (.ireturn, 1) := by decide +kernel
theorem dX2_turnsInto_0 : decode cX2_turnsInto 0 = .ok (.aload_n 0, 1) := by decide +kernel
theorem dX2_turnsInto_1 : decode cX2_turnsInto 1 = .ok (.iload_n 1, 1) := by decide +kernel
theorem dX2_turnsInto_2 : decode cX2_turnsInto 2 = .ok (.iload_n 2, 1) := by decide +kernel
theorem dX2_turnsInto_3 : decode cX2_turnsInto 3 = .ok (.invokevirtual 79, 3) := by decide +kernel
theorem dX2_turnsInto_6 : decode cX2_turnsInto 6 = .ok (.ifCond .ne 31, 3) := by decide +kernel
theorem dX2_turnsInto_9 : decode cX2_turnsInto 9 = .ok (.aload_n 0, 1) := by decide +kernel
theorem dX2_turnsInto_10 : decode cX2_turnsInto 10 = .ok (.getfield 36, 3) := by decide +kernel
theorem dX2_turnsInto_13 : decode cX2_turnsInto 13 = .ok (.aload_n 0, 1) := by decide +kernel
theorem dX2_turnsInto_14 : decode cX2_turnsInto 14 = .ok (.getfield 40, 3) := by decide +kernel
theorem dX2_turnsInto_17 : decode cX2_turnsInto 17 = .ok (.if_icmp .ne 24, 3) := by decide +kernel
theorem dX2_turnsInto_20 : decode cX2_turnsInto 20 = .ok (.aload_n 0, 1) := by decide +kernel
theorem dX2_turnsInto_21 : decode cX2_turnsInto 21 = .ok (.aload_n 0, 1) := by decide +kernel
theorem dX2_turnsInto_22 : decode cX2_turnsInto 22 = .ok (.iload_n 1, 1) := by decide +kernel
theorem dX2_turnsInto_23 : decode cX2_turnsInto 23 = .ok (.aload_n 0, 1) := by decide +kernel
theorem dX2_turnsInto_24 : decode cX2_turnsInto 24 = .ok (.getfield 33, 3) := by decide +kernel
theorem dX2_turnsInto_27 : decode cX2_turnsInto 27 = .ok (.invokevirtual 75, 3) := by decide +kernel
theorem dX2_turnsInto_30 : decode cX2_turnsInto 30 = .ok (.iload_n 2, 1) := by decide +kernel
theorem dX2_turnsInto_31 : decode cX2_turnsInto 31 = .ok (.invokevirtual 79, 3) := by decide +kernel
theorem dX2_turnsInto_34 : decode cX2_turnsInto 34 = .ok (.ifCond .eq 7, 3) := by decide +kernel
theorem dX2_turnsInto_37 : decode cX2_turnsInto 37 = .ok (.iconst 1, 1) := by decide +kernel
theorem dX2_turnsInto_38 : decode cX2_turnsInto 38 = .ok (.goto 4, 3) := by decide +kernel
theorem dX2_turnsInto_41 : decode cX2_turnsInto 41 = .ok (.iconst 0, 1) := by decide +kernel
theorem dX2_turnsInto_42 : decode cX2_turnsInto 42 = .ok (.ireturn, 1) := by decide +kernel
theorem dX2_wholeAmong_0 : decode cX2_wholeAmong 0 = .ok (.iconst 0, 1) := by decide +kernel
theorem dX2_wholeAmong_1 : decode cX2_wholeAmong 1 = .ok (.istore_n 2, 1) := by decide +kernel
theorem dX2_wholeAmong_2 : decode cX2_wholeAmong 2 = .ok (.iconst 0, 1) := by decide +kernel
theorem dX2_wholeAmong_3 : decode cX2_wholeAmong 3 = .ok (.istore_n 3, 1) := by decide +kernel
theorem dX2_wholeAmong_4 : decode cX2_wholeAmong 4 = .ok (.iload_n 3, 1) := by decide +kernel
theorem dX2_wholeAmong_5 : decode cX2_wholeAmong 5 = .ok (.aload_n 0, 1) := by decide +kernel
theorem dX2_wholeAmong_6 : decode cX2_wholeAmong 6 = .ok (.getfield 50, 3) := by decide +kernel
theorem dX2_wholeAmong_9 : decode cX2_wholeAmong 9 = .ok (.if_icmp .ge 32, 3) := by decide +kernel
theorem dX2_wholeAmong_12 : decode cX2_wholeAmong 12 = .ok (.iload_n 1, 1) := by decide +kernel
theorem dX2_wholeAmong_13 : decode cX2_wholeAmong 13 = .ok (.aload_n 0, 1) := by decide +kernel
theorem dX2_wholeAmong_14 : decode cX2_wholeAmong 14 = .ok (.getfield 21, 3) := by decide +kernel
theorem dX2_wholeAmong_17 : decode cX2_wholeAmong 17 = .ok (.iload_n 3, 1) := by decide +kernel
theorem dX2_wholeAmong_18 : decode cX2_wholeAmong 18 = .ok (.iaload, 1) := by decide +kernel
theorem dX2_wholeAmong_19 : decode cX2_wholeAmong 19 = .ok (.iand, 1) := by decide +kernel
theorem dX2_wholeAmong_20 : decode cX2_wholeAmong 20 = .ok (.aload_n 0, 1) := by decide +kernel
theorem dX2_wholeAmong_21 : decode cX2_wholeAmong 21 = .ok (.getfield 21, 3) := by decide +kernel
theorem dX2_wholeAmong_24 : decode cX2_wholeAmong 24 = .ok (.iload_n 3, 1) := by decide +kernel
theorem dX2_wholeAmong_25 : decode cX2_wholeAmong 25 = .ok (.iaload, 1) := by decide +kernel
theorem dX2_wholeAmong_26 : decode cX2_wholeAmong 26 = .ok (.if_icmp .ne 9, 3) := by decide +kernel
theorem dX2_wholeAmong_29 : decode cX2_wholeAmong 29 = .ok (.iload_n 2, 1) := by decide +kernel
theorem dX2_wholeAmong_30 : decode cX2_wholeAmong 30 = .ok (.iconst 1, 1) := by decide +kernel
theorem dX2_wholeAmong_31 : decode cX2_wholeAmong 31 = .ok (.iload_n 3, 1) := by decide +kernel
theorem dX2_wholeAmong_32 : decode cX2_wholeAmong 32 = .ok (.ishl, 1) := by decide +kernel
theorem dX2_wholeAmong_33 : decode cX2_wholeAmong 33 = .ok (.ior, 1) := by decide +kernel
theorem dX2_wholeAmong_34 : decode cX2_wholeAmong 34 = .ok (.istore_n 2, 1) := by decide +kernel
theorem dX2_wholeAmong_35 : decode cX2_wholeAmong 35 = .ok (.iinc 3 1, 3) := by decide +kernel
theorem dX2_wholeAmong_38 : decode cX2_wholeAmong 38 = .ok (.goto (-34), 3) := by decide +kernel
theorem dX2_wholeAmong_41 : decode cX2_wholeAmong 41 = .ok (.iload_n 2, 1) := by decide +kernel
theorem dX2_wholeAmong_42 : decode cX2_wholeAmong 42 = .ok (.ireturn, 1) := by decide +kernel
theorem dX2_touching_0 : decode cX2_touching 0 = .ok (.iconst 0, 1) := by decide +kernel
theorem dX2_touching_1 : decode cX2_touching 1 = .ok (.istore_n 3, 1) := by decide +kernel
theorem dX2_touching_2 : decode cX2_touching 2 = .ok (.iconst 0, 1) := by decide +kernel
theorem dX2_touching_3 : decode cX2_touching 3 = .ok (.istore 4, 2) := by decide +kernel
theorem dX2_touching_5 : decode cX2_touching 5 = .ok (.iload 4, 2) := by decide +kernel
theorem dX2_touching_7 : decode cX2_touching 7 = .ok (.aload_n 0, 1) := by decide +kernel
theorem dX2_touching_8 : decode cX2_touching 8 = .ok (.getfield 50, 3) := by decide +kernel
theorem dX2_touching_11 : decode cX2_touching 11 = .ok (.if_icmp .ge 35, 3) := by decide +kernel
theorem dX2_touching_14 : decode cX2_touching 14 = .ok (.iload_n 1, 1) := by decide +kernel
theorem dX2_touching_15 : decode cX2_touching 15 = .ok (.iload 4, 2) := by decide +kernel
theorem dX2_touching_17 : decode cX2_touching 17 = .ok (.ishr, 1) := by decide +kernel
theorem dX2_touching_18 : decode cX2_touching 18 = .ok (.aload_n 0, 1) := by decide +kernel
theorem dX2_touching_19 : decode cX2_touching 19 = .ok (.getfield 21, 3) := by decide +kernel
theorem dX2_touching_22 : decode cX2_touching 22 = .ok (.iload 4, 2) := by decide +kernel
theorem dX2_touching_24 : decode cX2_touching 24 = .ok (.iaload, 1) := by decide +kernel
theorem dX2_touching_25 : decode cX2_touching 25 = .ok (.iload_n 2, 1) := by decide +kernel
theorem dX2_touching_26 : decode cX2_touching 26 = .ok (.ishr, 1) := by decide +kernel
theorem dX2_touching_27 : decode cX2_touching 27 = .ok (.iand, 1) := by decide +kernel
theorem dX2_touching_28 : decode cX2_touching 28 = .ok (.iconst 1, 1) := by decide +kernel
theorem dX2_touching_29 : decode cX2_touching 29 = .ok (.iand, 1) := by decide +kernel
theorem dX2_touching_30 : decode cX2_touching 30 = .ok (.ifCond .eq 10, 3) := by decide +kernel
theorem dX2_touching_33 : decode cX2_touching 33 = .ok (.iload_n 3, 1) := by decide +kernel
theorem dX2_touching_34 : decode cX2_touching 34 = .ok (.iconst 1, 1) := by decide +kernel
theorem dX2_touching_35 : decode cX2_touching 35 = .ok (.iload 4, 2) := by decide +kernel
theorem dX2_touching_37 : decode cX2_touching 37 = .ok (.ishl, 1) := by decide +kernel
theorem dX2_touching_38 : decode cX2_touching 38 = .ok (.ior, 1) := by decide +kernel
theorem dX2_touching_39 : decode cX2_touching 39 = .ok (.istore_n 3, 1) := by decide +kernel
theorem dX2_touching_40 : decode cX2_touching 40 = .ok (.iinc 4 1, 3) := by decide +kernel
theorem dX2_touching_43 : decode cX2_touching 43 = .ok (.goto (-38), 3) := by decide +kernel
theorem dX2_touching_46 : decode cX2_touching 46 = .ok (.iload_n 3, 1) := by decide +kernel
theorem dX2_touching_47 : decode cX2_touching 47 = .ok (.ireturn, 1) := by decide +kernel
theorem dX3_init_0 : decode cX3_init 0 = .ok (.aload_n 0, 1) := by decide +kernel
theorem dX3_init_1 : decode cX3_init 1 = .ok (.invokespecial 3, 3) := by decide +kernel
theorem dX3_init_4 : decode cX3_init 4 = .ok (.aload_n 0, 1) := by decide +kernel
theorem dX3_init_5 : decode cX3_init 5 = .ok (.sipush 465, 3) := by decide +kernel
theorem dX3_init_8 : decode cX3_init 8 = .ok (.newarray .int, 2) := by decide +kernel
theorem dX3_init_10 : decode cX3_init 10 = .ok (.putfield 11, 3) := by decide +kernel
theorem dX3_init_13 : decode cX3_init 13 = .ok (.aload_n 0, 1) := by decide +kernel
theorem dX3_init_14 : decode cX3_init 14 = .ok (.sipush 465, 3) := by decide +kernel
theorem dX3_init_17 : decode cX3_init 17 = .ok (.newarray .int, 2) := by decide +kernel
theorem dX3_init_19 : decode cX3_init 19 = .ok (.putfield 15, 3) := by decide +kernel
theorem dX3_init_22 : decode cX3_init 22 = .ok (.aload_n 0, 1) := by decide +kernel
theorem dX3_init_23 : decode cX3_init 23 = .ok (.sipush 465, 3) := by decide +kernel
theorem dX3_init_26 : decode cX3_init 26 = .ok (.newarray .int, 2) := by decide +kernel
theorem dX3_init_28 : decode cX3_init 28 = .ok (.putfield 18, 3) := by decide +kernel
theorem dX3_init_31 : decode cX3_init 31 = .ok (.return_, 1) := by decide +kernel
theorem dX3_moveAll_0 : decode cX3_moveAll 0 = .ok (.aload_n 0, 1) := by decide +kernel
theorem dX3_moveAll_1 : decode cX3_moveAll 1 = .ok (.getfield 11, 3) := by decide +kernel
theorem dX3_moveAll_4 : decode cX3_moveAll 4 = .ok (.iload_n 2, 1) := by decide +kernel
theorem dX3_moveAll_5 : decode cX3_moveAll 5 = .ok (.iload 4, 2) := by decide +kernel
theorem dX3_moveAll_7 : decode cX3_moveAll 7 = .ok (.invokestatic 21, 3) := by decide +kernel
theorem dX3_moveAll_10 : decode cX3_moveAll 10 = .ok (.istore 6, 2) := by decide +kernel
theorem dX3_moveAll_12 : decode cX3_moveAll 12 = .ok (.aload_n 0, 1) := by decide +kernel
theorem dX3_moveAll_13 : decode cX3_moveAll 13 = .ok (.getfield 15, 3) := by decide +kernel
theorem dX3_moveAll_16 : decode cX3_moveAll 16 = .ok (.aload_n 1, 1) := by decide +kernel
theorem dX3_moveAll_17 : decode cX3_moveAll 17 = .ok (.invokevirtual 25, 3) := by decide +kernel
theorem dX3_moveAll_20 : decode cX3_moveAll 20 = .ok (.iload_n 2, 1) := by decide +kernel
theorem dX3_moveAll_21 : decode cX3_moveAll 21 = .ok (.iconst (-1), 1) := by decide +kernel
theorem dX3_moveAll_22 : decode cX3_moveAll 22 = .ok (.ixor, 1) := by decide +kernel
theorem dX3_moveAll_23 : decode cX3_moveAll 23 = .ok (.iand, 1) := by decide +kernel
theorem dX3_moveAll_24 : decode cX3_moveAll 24 = .ok (.iload 4, 2) := by decide +kernel
theorem dX3_moveAll_26 : decode cX3_moveAll 26 = .ok (.invokestatic 21, 3) := by decide +kernel
theorem dX3_moveAll_29 : decode cX3_moveAll 29 = .ok (.istore 7, 2) := by decide +kernel
theorem dX3_moveAll_31 : decode cX3_moveAll 31 = .ok (.iconst 0, 1) := by decide +kernel
theorem dX3_moveAll_32 : decode cX3_moveAll 32 = .ok (.istore 8, 2) := by decide +kernel
theorem dX3_moveAll_34 : decode cX3_moveAll 34 = .ok (.iload 8, 2) := by decide +kernel
theorem dX3_moveAll_36 : decode cX3_moveAll 36 = .ok (.iload 7, 2) := by decide +kernel
theorem dX3_moveAll_38 : decode cX3_moveAll 38 = .ok (.if_icmp .ge 31, 3) := by decide +kernel
theorem dX3_moveAll_41 : decode cX3_moveAll 41 = .ok (.aload_n 0, 1) := by decide +kernel
theorem dX3_moveAll_42 : decode cX3_moveAll 42 = .ok (.getfield 18, 3) := by decide +kernel
theorem dX3_moveAll_45 : decode cX3_moveAll 45 = .ok (.iload 8, 2) := by decide +kernel
theorem dX3_moveAll_47 : decode cX3_moveAll 47 = .ok (.aload_n 1, 1) := by decide +kernel
theorem dX3_moveAll_48 : decode cX3_moveAll 48 = .ok (.iload_n 2, 1) := by decide +kernel
theorem dX3_moveAll_49 : decode cX3_moveAll 49 = .ok (.aload_n 0, 1) := by decide +kernel
theorem dX3_moveAll_50 : decode cX3_moveAll 50 = .ok (.getfield 15, 3) := by decide +kernel
theorem dX3_moveAll_53 : decode cX3_moveAll 53 = .ok (.iload 8, 2) := by decide +kernel
theorem dX3_moveAll_55 : decode cX3_moveAll 55 = .ok (.iaload, 1) := by decide +kernel
theorem dX3_moveAll_56 : decode cX3_moveAll 56 = .ok (.ior, 1) := by decide +kernel
theorem dX3_moveAll_57 : decode cX3_moveAll 57 = .ok (.invokevirtual 31, 3) := by decide +kernel
theorem dX3_moveAll_60 : decode cX3_moveAll 60 = .ok (.iload_n 3, 1) := by decide +kernel
theorem dX3_moveAll_61 : decode cX3_moveAll 61 = .ok (.iand, 1) := by decide +kernel
theorem dX3_moveAll_62 : decode cX3_moveAll 62 = .ok (.iastore, 1) := by decide +kernel
theorem dX3_moveAll_63 : decode cX3_moveAll 63 = .ok (.iinc 8 1, 3) := by decide +kernel
theorem dX3_moveAll_66 : decode cX3_moveAll 66 = .ok (.goto (-32), 3) := by decide +kernel
theorem dX3_moveAll_69 : decode cX3_moveAll 69 = .ok (.aload_n 0, 1) := by decide +kernel
theorem dX3_moveAll_70 : decode cX3_moveAll 70 = .ok (.iconst 0, 1) := by decide +kernel
theorem dX3_moveAll_71 : decode cX3_moveAll 71 = .ok (.putfield 35, 3) := by decide +kernel
theorem dX3_moveAll_74 : decode cX3_moveAll 74 = .ok (.iconst 0, 1) := by decide +kernel
theorem dX3_moveAll_75 : decode cX3_moveAll 75 = .ok (.istore 8, 2) := by decide +kernel
theorem dX3_moveAll_77 : decode cX3_moveAll 77 = .ok (.iload 8, 2) := by decide +kernel
theorem dX3_moveAll_79 : decode cX3_moveAll 79 = .ok (.iload 6, 2) := by decide +kernel
theorem dX3_moveAll_81 : decode cX3_moveAll 81 = .ok (.if_icmp .ge 81, 3) := by decide +kernel
theorem dX3_moveAll_84 : decode cX3_moveAll 84 = .ok (.aload_n 1, 1) := by decide +kernel
theorem dX3_moveAll_85 : decode cX3_moveAll 85 = .ok (.aload_n 1, 1) := by decide +kernel
theorem dX3_moveAll_86 : decode cX3_moveAll 86 = .ok (.invokevirtual 25, 3) := by decide +kernel
theorem dX3_moveAll_89 : decode cX3_moveAll 89 = .ok (.aload_n 0, 1) := by decide +kernel
theorem dX3_moveAll_90 : decode cX3_moveAll 90 = .ok (.getfield 11, 3) := by decide +kernel
theorem dX3_moveAll_93 : decode cX3_moveAll 93 = .ok (.iload 8, 2) := by decide +kernel
theorem dX3_moveAll_95 : decode cX3_moveAll 95 = .ok (.iaload, 1) := by decide +kernel
theorem dX3_moveAll_96 : decode cX3_moveAll 96 = .ok (.iconst (-1), 1) := by decide +kernel
theorem dX3_moveAll_97 : decode cX3_moveAll 97 = .ok (.ixor, 1) := by decide +kernel
theorem dX3_moveAll_98 : decode cX3_moveAll 98 = .ok (.iand, 1) := by decide +kernel
theorem dX3_moveAll_99 : decode cX3_moveAll 99 = .ok (.invokevirtual 31, 3) := by decide +kernel
theorem dX3_moveAll_102 : decode cX3_moveAll 102 = .ok (.istore 9, 2) := by decide +kernel
theorem dX3_moveAll_104 : decode cX3_moveAll 104 = .ok (.iconst 0, 1) := by decide +kernel
theorem dX3_moveAll_105 : decode cX3_moveAll 105 = .ok (.istore 10, 2) := by decide +kernel
theorem dX3_moveAll_107 : decode cX3_moveAll 107 = .ok (.iload 10, 2) := by decide +kernel
theorem dX3_moveAll_109 : decode cX3_moveAll 109 = .ok (.iload 7, 2) := by decide +kernel
theorem dX3_moveAll_111 : decode cX3_moveAll 111 = .ok (.if_icmp .ge 45, 3) := by decide +kernel
theorem dX3_moveAll_114 : decode cX3_moveAll 114 = .ok (.aload_n 0, 1) := by decide +kernel
theorem dX3_moveAll_115 : decode cX3_moveAll 115 = .ok (.getfield 18, 3) := by decide +kernel
theorem dX3_moveAll_118 : decode cX3_moveAll 118 = .ok (.iload 10, 2) := by decide +kernel
theorem dX3_moveAll_120 : decode cX3_moveAll 120 = .ok (.iaload, 1) := by decide +kernel
theorem dX3_moveAll_121 : decode cX3_moveAll 121 = .ok (.iload 9, 2) := by decide +kernel
theorem dX3_moveAll_123 : decode cX3_moveAll 123 = .ok (.iand, 1) := by decide +kernel
theorem dX3_moveAll_124 : decode cX3_moveAll 124 = .ok (.invokestatic 39, 3) := by decide +kernel
theorem dX3_moveAll_127 : decode cX3_moveAll 127 = .ok (.iload 5, 2) := by decide +kernel
theorem dX3_moveAll_129 : decode cX3_moveAll 129 = .ok (.if_icmp .ne 21, 3) := by decide +kernel
theorem dX3_moveAll_132 : decode cX3_moveAll 132 = .ok (.aload_n 0, 1) := by decide +kernel
theorem dX3_moveAll_133 : decode cX3_moveAll 133 = .ok (.aload_n 0, 1) := by decide +kernel
theorem dX3_moveAll_134 : decode cX3_moveAll 134 = .ok (.getfield 11, 3) := by decide +kernel
theorem dX3_moveAll_137 : decode cX3_moveAll 137 = .ok (.iload 8, 2) := by decide +kernel
theorem dX3_moveAll_139 : decode cX3_moveAll 139 = .ok (.iaload, 1) := by decide +kernel
theorem dX3_moveAll_140 : decode cX3_moveAll 140 = .ok (.aload_n 0, 1) := by decide +kernel
theorem dX3_moveAll_141 : decode cX3_moveAll 141 = .ok (.getfield 15, 3) := by decide +kernel
theorem dX3_moveAll_144 : decode cX3_moveAll 144 = .ok (.iload 10, 2) := by decide +kernel
theorem dX3_moveAll_146 : decode cX3_moveAll 146 = .ok (.iaload, 1) := by decide +kernel
theorem dX3_moveAll_147 : decode cX3_moveAll 147 = .ok (.invokevirtual 44, 3) := by decide +kernel
theorem dX3_moveAll_150 : decode cX3_moveAll 150 = .ok (.iinc 10 1, 3) := by decide +kernel
theorem dX3_moveAll_153 : decode cX3_moveAll 153 = .ok (.goto (-46), 3) := by decide +kernel
theorem dX3_moveAll_156 : decode cX3_moveAll 156 = .ok (.iinc 8 1, 3) := by decide +kernel
theorem dX3_moveAll_159 : decode cX3_moveAll 159 = .ok (.goto (-82), 3) := by decide +kernel
theorem dX3_moveAll_162 : decode cX3_moveAll 162 = .ok (.return_, 1) := by decide +kernel
theorem dX3_noteMove_0 : decode cX3_noteMove 0 = .ok (.aload_n 0, 1) := by decide +kernel
theorem dX3_noteMove_1 : decode cX3_noteMove 1 = .ok (.getfield 35, 3) := by decide +kernel
theorem dX3_noteMove_4 : decode cX3_noteMove 4 = .ok (.ifCond .ne 13, 3) := by decide +kernel
theorem dX3_noteMove_7 : decode cX3_noteMove 7 = .ok (.aload_n 0, 1) := by decide +kernel
theorem dX3_noteMove_8 : decode cX3_noteMove 8 = .ok (.iload_n 1, 1) := by decide +kernel
theorem dX3_noteMove_9 : decode cX3_noteMove 9 = .ok (.putfield 48, 3) := by decide +kernel
theorem dX3_noteMove_12 : decode cX3_noteMove 12 = .ok (.aload_n 0, 1) := by decide +kernel
theorem dX3_noteMove_13 : decode cX3_noteMove 13 = .ok (.iload_n 2, 1) := by decide +kernel
theorem dX3_noteMove_14 : decode cX3_noteMove 14 = .ok (.putfield 51, 3) := by decide +kernel
theorem dX3_noteMove_17 : decode cX3_noteMove 17 = .ok (.aload_n 0, 1) := by decide +kernel
theorem dX3_noteMove_18 : decode cX3_noteMove 18 = .ok (.dup, 1) := by decide +kernel
theorem dX3_noteMove_19 : decode cX3_noteMove 19 = .ok (.getfield 35, 3) := by decide +kernel
theorem dX3_noteMove_22 : decode cX3_noteMove 22 = .ok (.iconst 1, 1) := by decide +kernel
theorem dX3_noteMove_23 : decode cX3_noteMove 23 = .ok (.iadd, 1) := by decide +kernel
theorem dX3_noteMove_24 : decode cX3_noteMove 24 = .ok (.putfield 35, 3) := by decide +kernel
theorem dX3_noteMove_27 : decode cX3_noteMove 27 = .ok (.return_, 1) := by decide +kernel
theorem dX3_listSets_0 : decode cX3_listSets 0 = .ok (.iconst 0, 1) := by decide +kernel
theorem dX3_listSets_1 : decode cX3_listSets 1 = .ok (.istore_n 3, 1) := by decide +kernel
theorem dX3_listSets_2 : decode cX3_listSets 2 = .ok (.iconst 0, 1) := by decide +kernel
theorem dX3_listSets_3 : decode cX3_listSets 3 = .ok (.istore 4, 2) := by decide +kernel
theorem dX3_listSets_5 : decode cX3_listSets 5 = .ok (.iload 4, 2) := by decide +kernel
theorem dX3_listSets_7 : decode cX3_listSets 7 = .ok (.bipush 31, 2) := by decide +kernel
theorem dX3_listSets_9 : decode cX3_listSets 9 = .ok (.if_icmp .ge 97, 3) := by decide +kernel
theorem dX3_listSets_12 : decode cX3_listSets 12 = .ok (.iconst 1, 1) := by decide +kernel
theorem dX3_listSets_13 : decode cX3_listSets 13 = .ok (.iload 4, 2) := by decide +kernel
theorem dX3_listSets_15 : decode cX3_listSets 15 = .ok (.ishl, 1) := by decide +kernel
theorem dX3_listSets_16 : decode cX3_listSets 16 = .ok (.istore 5, 2) := by decide +kernel
theorem dX3_listSets_18 : decode cX3_listSets 18 = .ok (.iload_n 1, 1) := by decide +kernel
theorem dX3_listSets_19 : decode cX3_listSets 19 = .ok (.iload 5, 2) := by decide +kernel
theorem dX3_listSets_21 : decode cX3_listSets 21 = .ok (.iand, 1) := by decide +kernel
theorem dX3_listSets_22 : decode cX3_listSets 22 = .ok (.ifCond .eq 22, 3) := by decide +kernel
theorem dX3_listSets_25 : decode cX3_listSets 25 = .ok (.iload_n 2, 1) := by decide +kernel
theorem dX3_listSets_26 : decode cX3_listSets 26 = .ok (.iconst 1, 1) := by decide +kernel
theorem dX3_listSets_27 : decode cX3_listSets 27 = .ok (.if_icmp .ne 17, 3) := by decide +kernel
theorem dX3_listSets_30 : decode cX3_listSets 30 = .ok (.iload_n 3, 1) := by decide +kernel
theorem dX3_listSets_31 : decode cX3_listSets 31 = .ok (.aload_n 0, 1) := by decide +kernel
theorem dX3_listSets_32 : decode cX3_listSets 32 = .ok (.arraylength, 1) := by decide +kernel
theorem dX3_listSets_33 : decode cX3_listSets 33 = .ok (.if_icmp .ge 11, 3) := by decide +kernel
theorem dX3_listSets_36 : decode cX3_listSets 36 = .ok (.aload_n 0, 1) := by decide +kernel
theorem dX3_listSets_37 : decode cX3_listSets 37 = .ok (.iload_n 3, 1) := by decide +kernel
theorem dX3_listSets_38 : decode cX3_listSets 38 = .ok (.iinc 3 1, 3) := by decide +kernel
theorem dX3_listSets_41 : decode cX3_listSets 41 = .ok (.iload 5, 2) := by decide +kernel
theorem dX3_listSets_43 : decode cX3_listSets 43 = .ok (.iastore, 1) := by decide +kernel
theorem dX3_listSets_44 : decode cX3_listSets 44 = .ok (.iconst 0, 1) := by decide +kernel
theorem dX3_listSets_45 : decode cX3_listSets 45 = .ok (.istore 6, 2) := by decide +kernel
theorem dX3_listSets_47 : decode cX3_listSets 47 = .ok (.iload 6, 2) := by decide +kernel
theorem dX3_listSets_49 : decode cX3_listSets 49 = .ok (.iload 4, 2) := by decide +kernel
theorem dX3_listSets_51 : decode cX3_listSets 51 = .ok (.if_icmp .ge 49, 3) := by decide +kernel
theorem dX3_listSets_54 : decode cX3_listSets 54 = .ok (.iload_n 2, 1) := by decide +kernel
theorem dX3_listSets_55 : decode cX3_listSets 55 = .ok (.iconst 2, 1) := by decide +kernel
theorem dX3_listSets_56 : decode cX3_listSets 56 = .ok (.if_icmp .ne 44, 3) := by decide +kernel
theorem dX3_listSets_59 : decode cX3_listSets 59 = .ok (.iload_n 1, 1) := by decide +kernel
theorem dX3_listSets_60 : decode cX3_listSets 60 = .ok (.iload 5, 2) := by decide +kernel
theorem dX3_listSets_62 : decode cX3_listSets 62 = .ok (.iand, 1) := by decide +kernel
theorem dX3_listSets_63 : decode cX3_listSets 63 = .ok (.ifCond .eq 37, 3) := by decide +kernel
theorem dX3_listSets_66 : decode cX3_listSets 66 = .ok (.iload_n 1, 1) := by decide +kernel
theorem dX3_listSets_67 : decode cX3_listSets 67 = .ok (.iload 6, 2) := by decide +kernel
theorem dX3_listSets_69 : decode cX3_listSets 69 = .ok (.ishr, 1) := by decide +kernel
theorem dX3_listSets_70 : decode cX3_listSets 70 = .ok (.iconst 1, 1) := by decide +kernel
theorem dX3_listSets_71 : decode cX3_listSets 71 = .ok (.iand, 1) := by decide +kernel
theorem dX3_listSets_72 : decode cX3_listSets 72 = .ok (.ifCond .eq 22, 3) := by decide +kernel
theorem dX3_listSets_75 : decode cX3_listSets 75 = .ok (.iload_n 3, 1) := by decide +kernel
theorem dX3_listSets_76 : decode cX3_listSets 76 = .ok (.aload_n 0, 1) := by decide +kernel
theorem dX3_listSets_77 : decode cX3_listSets 77 = .ok (.arraylength, 1) := by decide +kernel
theorem dX3_listSets_78 : decode cX3_listSets 78 = .ok (.if_icmp .ge 16, 3) := by decide +kernel
theorem dX3_listSets_81 : decode cX3_listSets 81 = .ok (.aload_n 0, 1) := by decide +kernel
theorem dX3_listSets_82 : decode cX3_listSets 82 = .ok (.iload_n 3, 1) := by decide +kernel
theorem dX3_listSets_83 : decode cX3_listSets 83 = .ok (.iinc 3 1, 3) := by decide +kernel
theorem dX3_listSets_86 : decode cX3_listSets 86 = .ok (.iload 5, 2) := by decide +kernel
theorem dX3_listSets_88 : decode cX3_listSets 88 = .ok (.iconst 1, 1) := by decide +kernel
theorem dX3_listSets_89 : decode cX3_listSets 89 = .ok (.iload 6, 2) := by decide +kernel
theorem dX3_listSets_91 : decode cX3_listSets 91 = .ok (.ishl, 1) := by decide +kernel
theorem dX3_listSets_92 : decode cX3_listSets 92 = .ok (.ior, 1) := by decide +kernel
theorem dX3_listSets_93 : decode cX3_listSets 93 = .ok (.iastore, 1) := by decide +kernel
theorem dX3_listSets_94 : decode cX3_listSets 94 = .ok (.iinc 6 1, 3) := by decide +kernel
theorem dX3_listSets_97 : decode cX3_listSets 97 = .ok (.goto (-50), 3) := by decide +kernel
theorem dX3_listSets_100 : decode cX3_listSets 100 = .ok (.iinc 4 1, 3) := by decide +kernel
theorem dX3_listSets_103 : decode cX3_listSets 103 = .ok (.goto (-98), 3) := by decide +kernel
theorem dX3_listSets_106 : decode cX3_listSets 106 = .ok (.iload_n 3, 1) := by decide +kernel
theorem dX3_listSets_107 : decode cX3_listSets 107 = .ok (.ireturn, 1) := by decide +kernel
