theorem dX10_readLineOf_33 : decode cX10_readLineOf 33 = .ok (.iconst 1, 1) := by decide +kernel
theorem dX10_readLineOf_34 : decode cX10_readLineOf 34 = .ok (.putfield 96, 3) := by decide +kernel
theorem dX10_readLineOf_37 : decode cX10_readLineOf 37 = .ok (.aload_n 0, 1) := by decide +kernel
theorem dX10_readLineOf_38 : decode cX10_readLineOf 38 = .ok (.aload_n 0, 1) := by decide +kernel
theorem dX10_readLineOf_39 : decode cX10_readLineOf 39 = .ok (.iconst 1, 1) := by decide +kernel
theorem dX10_readLineOf_40 : decode cX10_readLineOf 40 = .ok (.iconst 4, 1) := by decide +kernel
theorem dX10_readLineOf_41 : decode cX10_readLineOf 41 = .ok (.invokevirtual 186, 3) := by decide +kernel
theorem dX10_readLineOf_44 : decode cX10_readLineOf 44 = .ok (.putfield 83, 3) := by decide +kernel
theorem dX10_readLineOf_47 : decode cX10_readLineOf 47 = .ok (.aload_n 0, 1) := by decide +kernel
theorem dX10_readLineOf_48 : decode cX10_readLineOf 48 = .ok (.aload_n 0, 1) := by decide +kernel
theorem dX10_readLineOf_49 : decode cX10_readLineOf 49 = .ok (.iconst 1, 1) := by decide +kernel
theorem dX10_readLineOf_50 : decode cX10_readLineOf 50 = .ok (.iconst 3, 1) := by decide +kernel
theorem dX10_readLineOf_51 : decode cX10_readLineOf 51 = .ok (.invokevirtual 186, 3) := by decide +kernel
theorem dX10_readLineOf_54 : decode cX10_readLineOf 54 = .ok (.putfield 87, 3) := by decide +kernel
theorem dX10_readLineOf_57 : decode cX10_readLineOf 57 = .ok (.goto 138, 3) := by decide +kernel
theorem dX10_readLineOf_60 : decode cX10_readLineOf 60 = .ok (.aload_n 0, 1) := by decide +kernel
theorem dX10_readLineOf_61 : decode cX10_readLineOf 61 = .ok (.invokevirtual 189, 3) := by decide +kernel
theorem dX10_readLineOf_64 : decode cX10_readLineOf 64 = .ok (.goto 131, 3) := by decide +kernel
theorem dX10_readLineOf_67 : decode cX10_readLineOf 67 = .ok (.aload_n 0, 1) := by decide +kernel
theorem dX10_readLineOf_68 : decode cX10_readLineOf 68 = .ok (.invokevirtual 182, 3) := by decide +kernel
theorem dX10_readLineOf_71 : decode cX10_readLineOf 71 = .ok (.istore_n 2, 1) := by decide +kernel
theorem dX10_readLineOf_72 : decode cX10_readLineOf 72 = .ok (.aload_n 0, 1) := by decide +kernel
theorem dX10_readLineOf_73 : decode cX10_readLineOf 73 = .ok (.getfield 138, 3) := by decide +kernel
theorem dX10_readLineOf_76 : decode cX10_readLineOf 76 = .ok (.ifCond .ne 22, 3) := by decide +kernel
theorem dX10_readLineOf_79 : decode cX10_readLineOf 79 = .ok (.aload_n 0, 1) := by decide +kernel
theorem dX10_readLineOf_80 : decode cX10_readLineOf 80 = .ok (.aload_n 0, 1) := by decide +kernel
theorem dX10_readLineOf_81 : decode cX10_readLineOf 81 = .ok (.getfield 29, 3) := by decide +kernel
theorem dX10_readLineOf_84 : decode cX10_readLineOf 84 = .ok (.iload_n 2, 1) := by decide +kernel
theorem dX10_readLineOf_85 : decode cX10_readLineOf 85 = .ok (.iaload, 1) := by decide +kernel
theorem dX10_readLineOf_86 : decode cX10_readLineOf 86 = .ok (.ifCond .ne 7, 3) := by decide +kernel
theorem dX10_readLineOf_89 : decode cX10_readLineOf 89 = .ok (.iconst 1, 1) := by decide +kernel
theorem dX10_readLineOf_90 : decode cX10_readLineOf 90 = .ok (.goto 4, 3) := by decide +kernel
theorem dX10_readLineOf_93 : decode cX10_readLineOf 93 = .ok (.iconst 0, 1) := by decide +kernel
theorem dX10_readLineOf_94 : decode cX10_readLineOf 94 = .ok (.iconst 4, 1) := by decide +kernel
theorem dX10_readLineOf_95 : decode cX10_readLineOf 95 = .ok (.invokevirtual 172, 3) := by decide +kernel
theorem dX10_readLineOf_98 : decode cX10_readLineOf 98 = .ok (.aload_n 0, 1) := by decide +kernel
theorem dX10_readLineOf_99 : decode cX10_readLineOf 99 = .ok (.invokevirtual 179, 3) := by decide +kernel
theorem dX10_readLineOf_102 : decode cX10_readLineOf 102 = .ok (.aload_n 0, 1) := by decide +kernel
theorem dX10_readLineOf_103 : decode cX10_readLineOf 103 = .ok (.iconst 1, 1) := by decide +kernel
theorem dX10_readLineOf_104 : decode cX10_readLineOf 104 = .ok (.bipush 9, 2) := by decide +kernel
theorem dX10_readLineOf_106 : decode cX10_readLineOf 106 = .ok (.invokevirtual 186, 3) := by decide +kernel
theorem dX10_readLineOf_109 : decode cX10_readLineOf 109 = .ok (.istore_n 3, 1) := by decide +kernel
theorem dX10_readLineOf_110 : decode cX10_readLineOf 110 = .ok (.aload_n 0, 1) := by decide +kernel
theorem dX10_readLineOf_111 : decode cX10_readLineOf 111 = .ok (.getfield 29, 3) := by decide +kernel
theorem dX10_readLineOf_114 : decode cX10_readLineOf 114 = .ok (.iload_n 2, 1) := by decide +kernel
theorem dX10_readLineOf_115 : decode cX10_readLineOf 115 = .ok (.aload_n 0, 1) := by decide +kernel
theorem dX10_readLineOf_116 : decode cX10_readLineOf 116 = .ok (.getfield 138, 3) := by decide +kernel
theorem dX10_readLineOf_119 : decode cX10_readLineOf 119 = .ok (.ifCond .ne 7, 3) := by decide +kernel
theorem dX10_readLineOf_122 : decode cX10_readLineOf 122 = .ok (.iload_n 3, 1) := by decide +kernel
theorem dX10_readLineOf_123 : decode cX10_readLineOf 123 = .ok (.goto 9, 3) := by decide +kernel
theorem dX10_readLineOf_126 : decode cX10_readLineOf 126 = .ok (.aload_n 0, 1) := by decide +kernel
theorem dX10_readLineOf_127 : decode cX10_readLineOf 127 = .ok (.getfield 29, 3) := by decide +kernel
theorem dX10_readLineOf_130 : decode cX10_readLineOf 130 = .ok (.iload_n 2, 1) := by decide +kernel
theorem dX10_readLineOf_131 : decode cX10_readLineOf 131 = .ok (.iaload, 1) := by decide +kernel
theorem dX10_readLineOf_132 : decode cX10_readLineOf 132 = .ok (.iastore, 1) := by decide +kernel
theorem dX10_readLineOf_133 : decode cX10_readLineOf 133 = .ok (.goto 62, 3) := by decide +kernel
theorem dX10_readLineOf_136 : decode cX10_readLineOf 136 = .ok (.aload_n 0, 1) := by decide +kernel
theorem dX10_readLineOf_137 : decode cX10_readLineOf 137 = .ok (.invokevirtual 192, 3) := by decide +kernel
theorem dX10_readLineOf_140 : decode cX10_readLineOf 140 = .ok (.goto 55, 3) := by decide +kernel
theorem dX10_readLineOf_143 : decode cX10_readLineOf 143 = .ok (.aload_n 0, 1) := by decide +kernel
theorem dX10_readLineOf_144 : decode cX10_readLineOf 144 = .ok (.iconst 1, 1) := by decide +kernel
theorem dX10_readLineOf_145 : decode cX10_readLineOf 145 = .ok (.iconst 3, 1) := by decide +kernel
theorem dX10_readLineOf_146 : decode cX10_readLineOf 146 = .ok (.invokevirtual 176, 3) := by decide +kernel
theorem dX10_readLineOf_149 : decode cX10_readLineOf 149 = .ok (.istore_n 2, 1) := by decide +kernel
theorem dX10_readLineOf_150 : decode cX10_readLineOf 150 = .ok (.aload_n 0, 1) := by decide +kernel
theorem dX10_readLineOf_151 : decode cX10_readLineOf 151 = .ok (.getfield 138, 3) := by decide +kernel
theorem dX10_readLineOf_154 : decode cX10_readLineOf 154 = .ok (.ifCond .ne 24, 3) := by decide +kernel
theorem dX10_readLineOf_157 : decode cX10_readLineOf 157 = .ok (.aload_n 0, 1) := by decide +kernel
theorem dX10_readLineOf_158 : decode cX10_readLineOf 158 = .ok (.aload_n 0, 1) := by decide +kernel
theorem dX10_readLineOf_159 : decode cX10_readLineOf 159 = .ok (.getfield 32, 3) := by decide +kernel
theorem dX10_readLineOf_162 : decode cX10_readLineOf 162 = .ok (.iload_n 2, 1) := by decide +kernel
theorem dX10_readLineOf_163 : decode cX10_readLineOf 163 = .ok (.iaload, 1) := by decide +kernel
theorem dX10_readLineOf_164 : decode cX10_readLineOf 164 = .ok (.bipush (-4), 2) := by decide +kernel
theorem dX10_readLineOf_166 : decode cX10_readLineOf 166 = .ok (.if_icmp .ne 7, 3) := by decide +kernel
theorem dX10_readLineOf_169 : decode cX10_readLineOf 169 = .ok (.iconst 1, 1) := by decide +kernel
theorem dX10_readLineOf_170 : decode cX10_readLineOf 170 = .ok (.goto 4, 3) := by decide +kernel
theorem dX10_readLineOf_173 : decode cX10_readLineOf 173 = .ok (.iconst 0, 1) := by decide +kernel
theorem dX10_readLineOf_174 : decode cX10_readLineOf 174 = .ok (.iconst 4, 1) := by decide +kernel
theorem dX10_readLineOf_175 : decode cX10_readLineOf 175 = .ok (.invokevirtual 172, 3) := by decide +kernel
theorem dX10_readLineOf_178 : decode cX10_readLineOf 178 = .ok (.aload_n 0, 1) := by decide +kernel
theorem dX10_readLineOf_179 : decode cX10_readLineOf 179 = .ok (.invokevirtual 179, 3) := by decide +kernel
theorem dX10_readLineOf_182 : decode cX10_readLineOf 182 = .ok (.aload_n 0, 1) := by decide +kernel
theorem dX10_readLineOf_183 : decode cX10_readLineOf 183 = .ok (.getfield 32, 3) := by decide +kernel
theorem dX10_readLineOf_186 : decode cX10_readLineOf 186 = .ok (.iload_n 2, 1) := by decide +kernel
theorem dX10_readLineOf_187 : decode cX10_readLineOf 187 = .ok (.aload_n 0, 1) := by decide +kernel
theorem dX10_readLineOf_188 : decode cX10_readLineOf 188 = .ok (.iconst 0, 1) := by decide +kernel
theorem dX10_readLineOf_189 : decode cX10_readLineOf 189 = .ok (.bipush 12, 2) := by decide +kernel
theorem dX10_readLineOf_191 : decode cX10_readLineOf 191 = .ok (.invokevirtual 186, 3) := by decide +kernel
theorem dX10_readLineOf_194 : decode cX10_readLineOf 194 = .ok (.iastore, 1) := by decide +kernel
theorem dX10_readLineOf_195 : decode cX10_readLineOf 195 = .ok (.return_, 1) := by decide +kernel
theorem dX10_readLine_0 : decode cX10_readLine 0 = .ok (.aload_n 0, 1) := by decide +kernel
theorem dX10_readLine_1 : decode cX10_readLine 1 = .ok (.getfield 158, 3) := by decide +kernel
theorem dX10_readLine_4 : decode cX10_readLine 4 = .ok (.iconst 1, 1) := by decide +kernel
theorem dX10_readLine_5 : decode cX10_readLine 5 = .ok (.if_icmp .ne 10, 3) := by decide +kernel
theorem dX10_readLine_8 : decode cX10_readLine 8 = .ok (.aload_n 0, 1) := by decide +kernel
theorem dX10_readLine_9 : decode cX10_readLine 9 = .ok (.invokevirtual 195, 3) := by decide +kernel
theorem dX10_readLine_12 : decode cX10_readLine 12 = .ok (.goto 5, 3) := by decide +kernel
theorem dX10_readLine_15 : decode cX10_readLine 15 = .ok (.bipush (-4), 2) := by decide +kernel
theorem dX10_readLine_17 : decode cX10_readLine 17 = .ok (.istore_n 1, 1) := by decide +kernel
theorem dX10_readLine_18 : decode cX10_readLine 18 = .ok (.aload_n 0, 1) := by decide +kernel
theorem dX10_readLine_19 : decode cX10_readLine 19 = .ok (.iload_n 1, 1) := by decide +kernel
theorem dX10_readLine_20 : decode cX10_readLine 20 = .ok (.bipush (-4), 2) := by decide +kernel
theorem dX10_readLine_22 : decode cX10_readLine 22 = .ok (.if_icmp .eq 7, 3) := by decide +kernel
theorem dX10_readLine_25 : decode cX10_readLine 25 = .ok (.iconst 1, 1) := by decide +kernel
theorem dX10_readLine_26 : decode cX10_readLine 26 = .ok (.goto 4, 3) := by decide +kernel
theorem dX10_readLine_29 : decode cX10_readLine 29 = .ok (.iconst 0, 1) := by decide +kernel
theorem dX10_readLine_30 : decode cX10_readLine 30 = .ok (.iconst 2, 1) := by decide +kernel
theorem dX10_readLine_31 : decode cX10_readLine 31 = .ok (.invokevirtual 172, 3) := by decide +kernel
theorem dX10_readLine_34 : decode cX10_readLine 34 = .ok (.aload_n 0, 1) := by decide +kernel
theorem dX10_readLine_35 : decode cX10_readLine 35 = .ok (.iload_n 1, 1) := by decide +kernel
theorem dX10_readLine_36 : decode cX10_readLine 36 = .ok (.ifCond .ne 10, 3) := by decide +kernel
theorem dX10_readLine_39 : decode cX10_readLine 39 = .ok (.aload_n 0, 1) := by decide +kernel
theorem dX10_readLine_40 : decode cX10_readLine 40 = .ok (.getfield 96, 3) := by decide +kernel
theorem dX10_readLine_43 : decode cX10_readLine 43 = .ok (.ifCond .ne 7, 3) := by decide +kernel
theorem dX10_readLine_46 : decode cX10_readLine 46 = .ok (.iconst 1, 1) := by decide +kernel
theorem dX10_readLine_47 : decode cX10_readLine 47 = .ok (.goto 4, 3) := by decide +kernel
theorem dX10_readLine_50 : decode cX10_readLine 50 = .ok (.iconst 0, 1) := by decide +kernel
theorem dX10_readLine_51 : decode cX10_readLine 51 = .ok (.iconst 4, 1) := by decide +kernel
theorem dX10_readLine_52 : decode cX10_readLine 52 = .ok (.invokevirtual 172, 3) := by decide +kernel
theorem dX10_readLine_55 : decode cX10_readLine 55 = .ok (.aload_n 0, 1) := by decide +kernel
theorem dX10_readLine_56 : decode cX10_readLine 56 = .ok (.invokevirtual 179, 3) := by decide +kernel
theorem dX10_readLine_59 : decode cX10_readLine 59 = .ok (.aload_n 0, 1) := by decide +kernel
theorem dX10_readLine_60 : decode cX10_readLine 60 = .ok (.getfield 138, 3) := by decide +kernel
theorem dX10_readLine_63 : decode cX10_readLine 63 = .ok (.ifCond .le 4, 3) := by decide +kernel
theorem dX10_readLine_66 : decode cX10_readLine 66 = .ok (.return_, 1) := by decide +kernel
theorem dX10_readLine_67 : decode cX10_readLine 67 = .ok (.aload_n 0, 1) := by decide +kernel
theorem dX10_readLine_68 : decode cX10_readLine 68 = .ok (.iload_n 1, 1) := by decide +kernel
theorem dX10_readLine_69 : decode cX10_readLine 69 = .ok (.invokevirtual 198, 3) := by decide +kernel
theorem dX10_readLine_72 : decode cX10_readLine 72 = .ok (.aload_n 0, 1) := by decide +kernel
theorem dX10_readLine_73 : decode cX10_readLine 73 = .ok (.getfield 138, 3) := by decide +kernel
theorem dX10_readLine_76 : decode cX10_readLine 76 = .ok (.ifCond .ne 21, 3) := by decide +kernel
theorem dX10_readLine_79 : decode cX10_readLine 79 = .ok (.aload_n 0, 1) := by decide +kernel
theorem dX10_readLine_80 : decode cX10_readLine 80 = .ok (.aload_n 0, 1) := by decide +kernel
theorem dX10_readLine_81 : decode cX10_readLine 81 = .ok (.getfield 158, 3) := by decide +kernel
theorem dX10_readLine_84 : decode cX10_readLine 84 = .ok (.iconst 3, 1) := by decide +kernel
theorem dX10_readLine_85 : decode cX10_readLine 85 = .ok (.if_icmp .ne 7, 3) := by decide +kernel
theorem dX10_readLine_88 : decode cX10_readLine 88 = .ok (.iconst 1, 1) := by decide +kernel
theorem dX10_readLine_89 : decode cX10_readLine 89 = .ok (.goto 4, 3) := by decide +kernel
theorem dX10_readLine_92 : decode cX10_readLine 92 = .ok (.iconst 0, 1) := by decide +kernel
theorem dX10_readLine_93 : decode cX10_readLine 93 = .ok (.iconst 2, 1) := by decide +kernel
theorem dX10_readLine_94 : decode cX10_readLine 94 = .ok (.invokevirtual 172, 3) := by decide +kernel
theorem dX10_readLine_97 : decode cX10_readLine 97 = .ok (.aload_n 0, 1) := by decide +kernel
theorem dX10_readLine_98 : decode cX10_readLine 98 = .ok (.invokevirtual 179, 3) := by decide +kernel
theorem dX10_readLine_101 : decode cX10_readLine 101 = .ok (.return_, 1) := by decide +kernel
theorem dX10_text_0 : decode cX10_text 0 = .ok (.iconst 0, 1) := by decide +kernel
theorem dX10_text_1 : decode cX10_text 1 = .ok (.istore_n 1, 1) := by decide +kernel
theorem dX10_text_2 : decode cX10_text 2 = .ok (.aload_n 0, 1) := by decide +kernel
theorem dX10_text_3 : decode cX10_text 3 = .ok (.iconst 0, 1) := by decide +kernel
theorem dX10_text_4 : decode cX10_text 4 = .ok (.putfield 138, 3) := by decide +kernel
theorem dX10_text_7 : decode cX10_text 7 = .ok (.aload_n 0, 1) := by decide +kernel
theorem dX10_text_8 : decode cX10_text 8 = .ok (.iconst 0, 1) := by decide +kernel
theorem dX10_text_9 : decode cX10_text 9 = .ok (.putfield 147, 3) := by decide +kernel
theorem dX10_text_12 : decode cX10_text 12 = .ok (.aload_n 0, 1) := by decide +kernel
theorem dX10_text_13 : decode cX10_text 13 = .ok (.invokevirtual 77, 3) := by decide +kernel
theorem dX10_text_16 : decode cX10_text 16 = .ok (.aload_n 0, 1) := by decide +kernel
theorem dX10_text_17 : decode cX10_text 17 = .ok (.invokevirtual 179, 3) := by decide +kernel
theorem dX10_text_20 : decode cX10_text 20 = .ok (.aload_n 0, 1) := by decide +kernel
theorem dX10_text_21 : decode cX10_text 21 = .ok (.getfield 138, 3) := by decide +kernel
theorem dX10_text_24 : decode cX10_text 24 = .ok (.ifCond .ne 20, 3) := by decide +kernel
theorem dX10_text_27 : decode cX10_text 27 = .ok (.aload_n 0, 1) := by decide +kernel
theorem dX10_text_28 : decode cX10_text 28 = .ok (.getfield 158, 3) := by decide +kernel
theorem dX10_text_31 : decode cX10_text 31 = .ok (.ifCond .eq 13, 3) := by decide +kernel
theorem dX10_text_34 : decode cX10_text 34 = .ok (.aload_n 0, 1) := by decide +kernel
theorem dX10_text_35 : decode cX10_text 35 = .ok (.invokevirtual 202, 3) := by decide +kernel
theorem dX10_text_38 : decode cX10_text 38 = .ok (.iinc 1 1, 3) := by decide +kernel
theorem dX10_text_41 : decode cX10_text 41 = .ok (.goto (-21), 3) := by decide +kernel
theorem dX10_text_44 : decode cX10_text 44 = .ok (.aload_n 0, 1) := by decide +kernel
theorem dX10_text_45 : decode cX10_text 45 = .ok (.getfield 138, 3) := by decide +kernel
theorem dX10_text_48 : decode cX10_text 48 = .ok (.ifCond .ne 43, 3) := by decide +kernel
theorem dX10_text_51 : decode cX10_text 51 = .ok (.aload_n 0, 1) := by decide +kernel
theorem dX10_text_52 : decode cX10_text 52 = .ok (.aload_n 0, 1) := by decide +kernel
theorem dX10_text_53 : decode cX10_text 53 = .ok (.getfield 100, 3) := by decide +kernel
theorem dX10_text_56 : decode cX10_text 56 = .ok (.aload_n 0, 1) := by decide +kernel
theorem dX10_text_57 : decode cX10_text 57 = .ok (.getfield 83, 3) := by decide +kernel
theorem dX10_text_60 : decode cX10_text 60 = .ok (.aload_n 0, 1) := by decide +kernel
theorem dX10_text_61 : decode cX10_text 61 = .ok (.getfield 87, 3) := by decide +kernel
theorem dX10_text_64 : decode cX10_text 64 = .ok (.iconst 1, 1) := by decide +kernel
theorem dX10_text_65 : decode cX10_text 65 = .ok (.iadd, 1) := by decide +kernel
theorem dX10_text_66 : decode cX10_text 66 = .ok (.imul, 1) := by decide +kernel
theorem dX10_text_67 : decode cX10_text 67 = .ok (.aload_n 0, 1) := by decide +kernel
theorem dX10_text_68 : decode cX10_text 68 = .ok (.getfield 87, 3) := by decide +kernel
theorem dX10_text_71 : decode cX10_text 71 = .ok (.aload_n 0, 1) := by decide +kernel
theorem dX10_text_72 : decode cX10_text 72 = .ok (.getfield 83, 3) := by decide +kernel
theorem dX10_text_75 : decode cX10_text 75 = .ok (.iconst 1, 1) := by decide +kernel
theorem dX10_text_76 : decode cX10_text 76 = .ok (.iadd, 1) := by decide +kernel
theorem dX10_text_77 : decode cX10_text 77 = .ok (.imul, 1) := by decide +kernel
theorem dX10_text_78 : decode cX10_text 78 = .ok (.iadd, 1) := by decide +kernel
theorem dX10_text_79 : decode cX10_text 79 = .ok (.if_icmp .ge 7, 3) := by decide +kernel
theorem dX10_text_82 : decode cX10_text 82 = .ok (.iconst 1, 1) := by decide +kernel
theorem dX10_text_83 : decode cX10_text 83 = .ok (.goto 4, 3) := by decide +kernel
theorem dX10_text_86 : decode cX10_text 86 = .ok (.iconst 0, 1) := by decide +kernel
theorem dX10_text_87 : decode cX10_text 87 = .ok (.iconst 5, 1) := by decide +kernel
theorem dX10_text_88 : decode cX10_text 88 = .ok (.invokevirtual 172, 3) := by decide +kernel
theorem dX10_text_91 : decode cX10_text 91 = .ok (.aload_n 0, 1) := by decide +kernel
theorem dX10_text_92 : decode cX10_text 92 = .ok (.iconst 0, 1) := by decide +kernel
theorem dX10_text_93 : decode cX10_text 93 = .ok (.putfield 129, 3) := by decide +kernel
theorem dX10_text_96 : decode cX10_text 96 = .ok (.aload_n 0, 1) := by decide +kernel
theorem dX10_text_97 : decode cX10_text 97 = .ok (.getfield 138, 3) := by decide +kernel
theorem dX10_text_100 : decode cX10_text 100 = .ok (.ifCond .le 11, 3) := by decide +kernel
theorem dX10_text_103 : decode cX10_text 103 = .ok (.bipush (-10), 2) := by decide +kernel
theorem dX10_text_105 : decode cX10_text 105 = .ok (.aload_n 0, 1) := by decide +kernel
theorem dX10_text_106 : decode cX10_text 106 = .ok (.getfield 144, 3) := by decide +kernel
theorem dX10_text_109 : decode cX10_text 109 = .ok (.isub, 1) := by decide +kernel
theorem dX10_text_110 : decode cX10_text 110 = .ok (.ireturn, 1) := by decide +kernel
theorem dX10_text_111 : decode cX10_text 111 = .ok (.aload_n 0, 1) := by decide +kernel
theorem dX10_text_112 : decode cX10_text 112 = .ok (.invokevirtual 80, 3) := by decide +kernel
theorem dX10_text_115 : decode cX10_text 115 = .ok (.iload_n 1, 1) := by decide +kernel
theorem dX10_text_116 : decode cX10_text 116 = .ok (.ireturn, 1) := by decide +kernel
theorem dX10_fault_0 : decode cX10_fault 0 = .ok (.aload_n 0, 1) := by decide +kernel
theorem dX10_fault_1 : decode cX10_fault 1 = .ok (.getfield 138, 3) := by decide +kernel
theorem dX10_fault_4 : decode cX10_fault 4 = .ok (.ireturn, 1) := by decide +kernel
theorem dX10_isMatch_0 : decode cX10_isMatch 0 = .ok (.iload_n 1, 1) := by decide +kernel
theorem dX10_isMatch_1 : decode cX10_isMatch 1 = .ok (.i2l, 1) := by decide +kernel
theorem dX10_isMatch_2 : decode cX10_isMatch 2 = .ok (.lconst 0, 1) := by decide +kernel
theorem dX10_isMatch_3 : decode cX10_isMatch 3 = .ok (.aload_n 0, 1) := by decide +kernel
theorem dX10_isMatch_4 : decode cX10_isMatch 4 = .ok (.getfield 123, 3) := by decide +kernel
theorem dX10_isMatch_7 : decode cX10_isMatch 7 = .ok (.iconst 1, 1) := by decide +kernel
theorem dX10_isMatch_8 : decode cX10_isMatch 8 = .ok (.isub, 1) := by decide +kernel
theorem dX10_isMatch_9 : decode cX10_isMatch 9 = .ok (.i2l, 1) := by decide +kernel
theorem dX10_isMatch_10 : decode cX10_isMatch 10 = .ok (.invokestatic 134, 3) := by decide +kernel
theorem dX10_isMatch_13 : decode cX10_isMatch 13 = .ok (.ireturn, 1) := by decide +kernel
theorem dX10_doesLie_0 : decode cX10_doesLie 0 = .ok (.aload_n 0, 1) := by decide +kernel
theorem dX10_doesLie_1 : decode cX10_doesLie 1 = .ok (.getfield 7, 3) := by decide +kernel
theorem dX10_doesLie_4 : decode cX10_doesLie 4 = .ok (.iconst 0, 1) := by decide +kernel
theorem dX10_doesLie_5 : decode cX10_doesLie 5 = .ok (.iaload, 1) := by decide +kernel
theorem dX10_doesLie_6 : decode cX10_doesLie 6 = .ok (.iload_n 1, 1) := by decide +kernel
theorem dX10_doesLie_7 : decode cX10_doesLie 7 = .ok (.ishr, 1) := by decide +kernel
theorem dX10_doesLie_8 : decode cX10_doesLie 8 = .ok (.iconst 1, 1) := by decide +kernel
theorem dX10_doesLie_9 : decode cX10_doesLie 9 = .ok (.iand, 1) := by decide +kernel
theorem dX10_doesLie_10 : decode cX10_doesLie 10 = .ok (.iconst 1, 1) := by decide +kernel
theorem dX10_doesLie_11 : decode cX10_doesLie 11 = .ok (.if_icmp .ne 7, 3) := by decide +kernel
theorem dX10_doesLie_14 : decode cX10_doesLie 14 = .ok (.iconst 1, 1) := by decide +kernel
theorem dX10_doesLie_15 : decode cX10_doesLie 15 = .ok (.goto 4, 3) := by decide +kernel
theorem dX10_doesLie_18 : decode cX10_doesLie 18 = .ok (.iconst 0, 1) := by decide +kernel
theorem dX10_doesLie_19 : decode cX10_doesLie 19 = .ok (.ireturn, 1) := by decide +kernel
theorem dX10_doesCount_0 : decode cX10_doesCount 0 = .ok (.aload_n 0, 1) := by decide +kernel
theorem dX10_doesCount_1 : decode cX10_doesCount 1 = .ok (.getfield 7, 3) := by decide +kernel
theorem dX10_doesCount_4 : decode cX10_doesCount 4 = .ok (.bipush 32, 2) := by decide +kernel
theorem dX10_doesCount_6 : decode cX10_doesCount 6 = .ok (.iaload, 1) := by decide +kernel
theorem dX10_doesCount_7 : decode cX10_doesCount 7 = .ok (.aload_n 0, 1) := by decide +kernel
theorem dX10_doesCount_8 : decode cX10_doesCount 8 = .ok (.getfield 17, 3) := by decide +kernel
theorem dX10_doesCount_11 : decode cX10_doesCount 11 = .ok (.iload_n 1, 1) := by decide +kernel
theorem dX10_doesCount_12 : decode cX10_doesCount 12 = .ok (.iaload, 1) := by decide +kernel
theorem dX10_doesCount_13 : decode cX10_doesCount 13 = .ok (.ishr, 1) := by decide +kernel
theorem dX10_doesCount_14 : decode cX10_doesCount 14 = .ok (.iconst 1, 1) := by decide +kernel
theorem dX10_doesCount_15 : decode cX10_doesCount 15 = .ok (.iand, 1) := by decide +kernel
theorem dX10_doesCount_16 : decode cX10_doesCount 16 = .ok (.iconst 1, 1) := by decide +kernel
theorem dX10_doesCount_17 : decode cX10_doesCount 17 = .ok (.if_icmp .ne 7, 3) := by decide +kernel
theorem dX10_doesCount_20 : decode cX10_doesCount 20 = .ok (.iconst 1, 1) := by decide +kernel
theorem dX10_doesCount_21 : decode cX10_doesCount 21 = .ok (.goto 4, 3) := by decide +kernel
theorem dX10_doesCount_24 : decode cX10_doesCount 24 = .ok (.iconst 0, 1) := by decide +kernel
theorem dX10_doesCount_25 : decode cX10_doesCount 25 = .ok (.ireturn, 1) := by decide +kernel
theorem dX10_leftOf_0 : decode cX10_leftOf 0 = .ok (.iconst 0, 1) := by decide +kernel
theorem dX10_leftOf_1 : decode cX10_leftOf 1 = .ok (.istore_n 2, 1) := by decide +kernel
theorem dX10_leftOf_2 : decode cX10_leftOf 2 = .ok (.iconst 0, 1) := by decide +kernel
theorem dX10_leftOf_3 : decode cX10_leftOf 3 = .ok (.istore_n 3, 1) := by decide +kernel
theorem dX10_leftOf_4 : decode cX10_leftOf 4 = .ok (.iload_n 3, 1) := by decide +kernel
theorem dX10_leftOf_5 : decode cX10_leftOf 5 = .ok (.aload_n 0, 1) := by decide +kernel
theorem dX10_leftOf_6 : decode cX10_leftOf 6 = .ok (.getfield 116, 3) := by decide +kernel
theorem dX10_leftOf_9 : decode cX10_leftOf 9 = .ok (.if_icmp .ge 41, 3) := by decide +kernel
theorem dX10_leftOf_12 : decode cX10_leftOf 12 = .ok (.iload_n 2, 1) := by decide +kernel
theorem dX10_leftOf_13 : decode cX10_leftOf 13 = .ok (.aload_n 0, 1) := by decide +kernel
theorem dX10_leftOf_14 : decode cX10_leftOf 14 = .ok (.iload_n 3, 1) := by decide +kernel
theorem dX10_leftOf_15 : decode cX10_leftOf 15 = .ok (.invokevirtual 205, 3) := by decide +kernel
theorem dX10_leftOf_18 : decode cX10_leftOf 18 = .ok (.ifCond .eq 20, 3) := by decide +kernel
theorem dX10_leftOf_21 : decode cX10_leftOf 21 = .ok (.aload_n 0, 1) := by decide +kernel
theorem dX10_leftOf_22 : decode cX10_leftOf 22 = .ok (.getfield 26, 3) := by decide +kernel
theorem dX10_leftOf_25 : decode cX10_leftOf 25 = .ok (.iload_n 3, 1) := by decide +kernel
theorem dX10_leftOf_26 : decode cX10_leftOf 26 = .ok (.iaload, 1) := by decide +kernel
theorem dX10_leftOf_27 : decode cX10_leftOf 27 = .ok (.iload_n 1, 1) := by decide +kernel
theorem dX10_leftOf_28 : decode cX10_leftOf 28 = .ok (.iconst (-1), 1) := by decide +kernel
theorem dX10_leftOf_29 : decode cX10_leftOf 29 = .ok (.ixor, 1) := by decide +kernel
theorem dX10_leftOf_30 : decode cX10_leftOf 30 = .ok (.iand, 1) := by decide +kernel
theorem dX10_leftOf_31 : decode cX10_leftOf 31 = .ok (.ifCond .ne 7, 3) := by decide +kernel
theorem dX10_leftOf_34 : decode cX10_leftOf 34 = .ok (.iconst 1, 1) := by decide +kernel
theorem dX10_leftOf_35 : decode cX10_leftOf 35 = .ok (.goto 4, 3) := by decide +kernel
theorem dX10_leftOf_38 : decode cX10_leftOf 38 = .ok (.iconst 0, 1) := by decide +kernel
theorem dX10_leftOf_39 : decode cX10_leftOf 39 = .ok (.invokestatic 209, 3) := by decide +kernel
theorem dX10_leftOf_42 : decode cX10_leftOf 42 = .ok (.iadd, 1) := by decide +kernel
theorem dX10_leftOf_43 : decode cX10_leftOf 43 = .ok (.istore_n 2, 1) := by decide +kernel
theorem dX10_leftOf_44 : decode cX10_leftOf 44 = .ok (.iinc 3 1, 3) := by decide +kernel
theorem dX10_leftOf_47 : decode cX10_leftOf 47 = .ok (.goto (-43), 3) := by decide +kernel
theorem dX10_leftOf_50 : decode cX10_leftOf 50 = .ok (.iload_n 2, 1) := by decide +kernel
theorem dX10_leftOf_51 : decode cX10_leftOf 51 = .ok (.ireturn, 1) := by decide +kernel
theorem dX10_wholeOf_0 : decode cX10_wholeOf 0 = .ok (.iconst 0, 1) := by decide +kernel
theorem dX10_wholeOf_1 : decode cX10_wholeOf 1 = .ok (.istore_n 3, 1) := by decide +kernel
theorem dX10_wholeOf_2 : decode cX10_wholeOf 2 = .ok (.iconst 0, 1) := by decide +kernel
theorem dX10_wholeOf_3 : decode cX10_wholeOf 3 = .ok (.istore 4, 2) := by decide +kernel
theorem dX10_wholeOf_5 : decode cX10_wholeOf 5 = .ok (.iload 4, 2) := by decide +kernel
theorem dX10_wholeOf_7 : decode cX10_wholeOf 7 = .ok (.aload_n 0, 1) := by decide +kernel
theorem dX10_wholeOf_8 : decode cX10_wholeOf 8 = .ok (.getfield 116, 3) := by decide +kernel
theorem dX10_wholeOf_11 : decode cX10_wholeOf 11 = .ok (.if_icmp .ge 45, 3) := by decide +kernel
theorem dX10_wholeOf_14 : decode cX10_wholeOf 14 = .ok (.iload_n 3, 1) := by decide +kernel
theorem dX10_wholeOf_15 : decode cX10_wholeOf 15 = .ok (.aload_n 0, 1) := by decide +kernel
theorem dX10_wholeOf_16 : decode cX10_wholeOf 16 = .ok (.getfield 17, 3) := by decide +kernel
theorem dX10_wholeOf_19 : decode cX10_wholeOf 19 = .ok (.iload 4, 2) := by decide +kernel
theorem dX10_wholeOf_21 : decode cX10_wholeOf 21 = .ok (.iaload, 1) := by decide +kernel
theorem dX10_wholeOf_22 : decode cX10_wholeOf 22 = .ok (.iload_n 1, 1) := by decide +kernel
theorem dX10_wholeOf_23 : decode cX10_wholeOf 23 = .ok (.if_icmp .ne 21, 3) := by decide +kernel
theorem dX10_wholeOf_26 : decode cX10_wholeOf 26 = .ok (.aload_n 0, 1) := by decide +kernel
theorem dX10_wholeOf_27 : decode cX10_wholeOf 27 = .ok (.getfield 26, 3) := by decide +kernel
theorem dX10_wholeOf_30 : decode cX10_wholeOf 30 = .ok (.iload 4, 2) := by decide +kernel
theorem dX10_wholeOf_32 : decode cX10_wholeOf 32 = .ok (.iaload, 1) := by decide +kernel
theorem dX10_wholeOf_33 : decode cX10_wholeOf 33 = .ok (.iload_n 2, 1) := by decide +kernel
theorem dX10_wholeOf_34 : decode cX10_wholeOf 34 = .ok (.iconst (-1), 1) := by decide +kernel
theorem dX10_wholeOf_35 : decode cX10_wholeOf 35 = .ok (.ixor, 1) := by decide +kernel
theorem dX10_wholeOf_36 : decode cX10_wholeOf 36 = .ok (.iand, 1) := by decide +kernel
theorem dX10_wholeOf_37 : decode cX10_wholeOf 37 = .ok (.ifCond .ne 7, 3) := by decide +kernel
theorem dX10_wholeOf_40 : decode cX10_wholeOf 40 = .ok (.iconst 1, 1) := by decide +kernel
theorem dX10_wholeOf_41 : decode cX10_wholeOf 41 = .ok (.goto 4, 3) := by decide +kernel
theorem dX10_wholeOf_44 : decode cX10_wholeOf 44 = .ok (.iconst 0, 1) := by decide +kernel
theorem dX10_wholeOf_45 : decode cX10_wholeOf 45 = .ok (.invokestatic 209, 3) := by decide +kernel
theorem dX10_wholeOf_48 : decode cX10_wholeOf 48 = .ok (.iadd, 1) := by decide +kernel
theorem dX10_wholeOf_49 : decode cX10_wholeOf 49 = .ok (.istore_n 3, 1) := by decide +kernel
theorem dX10_wholeOf_50 : decode cX10_wholeOf 50 = .ok (.iinc 4 1, 3) := by decide +kernel
theorem dX10_wholeOf_53 : decode cX10_wholeOf 53 = .ok (.goto (-48), 3) := by decide +kernel
theorem dX10_wholeOf_56 : decode cX10_wholeOf 56 = .ok (.iload_n 3, 1) := by decide +kernel
theorem dX10_wholeOf_57 : decode cX10_wholeOf 57 = .ok (.ireturn, 1) := by decide +kernel
theorem dX10_rule_0 : decode cX10_rule 0 = .ok (.iload_n 1, 1) := by decide +kernel
theorem dX10_rule_1 : decode cX10_rule 1 = .ok (.tableswitch 74 0 5 #[39, 44, 49, 54, 59, 66], 39) := by decide +kernel
theorem dX10_rule_40 : decode cX10_rule 40 = .ok (.aload_n 0, 1) := by decide +kernel
theorem dX10_rule_41 : decode cX10_rule 41 = .ok (.getfield 103, 3) := by decide +kernel
theorem dX10_rule_44 : decode cX10_rule 44 = .ok (.ireturn, 1) := by decide +kernel
theorem dX10_rule_45 : decode cX10_rule 45 = .ok (.aload_n 0, 1) := by decide +kernel
theorem dX10_rule_46 : decode cX10_rule 46 = .ok (.getfield 106, 3) := by decide +kernel
theorem dX10_rule_49 : decode cX10_rule 49 = .ok (.ireturn, 1) := by decide +kernel
theorem dX10_rule_50 : decode cX10_rule 50 = .ok (.aload_n 0, 1) := by decide +kernel
theorem dX10_rule_51 : decode cX10_rule 51 = .ok (.getfield 123, 3) := by decide +kernel
theorem dX10_rule_54 : decode cX10_rule 54 = .ok (.ireturn, 1) := by decide +kernel
theorem dX10_rule_55 : decode cX10_rule 55 = .ok (.aload_n 0, 1) := by decide +kernel
theorem dX10_rule_56 : decode cX10_rule 56 = .ok (.getfield 116, 3) := by decide +kernel
theorem dX10_rule_59 : decode cX10_rule 59 = .ok (.ireturn, 1) := by decide +kernel
theorem dX10_rule_60 : decode cX10_rule 60 = .ok (.aload_n 0, 1) := by decide +kernel
theorem dX10_rule_61 : decode cX10_rule 61 = .ok (.getfield 7, 3) := by decide +kernel
theorem dX10_rule_64 : decode cX10_rule 64 = .ok (.iconst 0, 1) := by decide +kernel
theorem dX10_rule_65 : decode cX10_rule 65 = .ok (.iaload, 1) := by decide +kernel
theorem dX10_rule_66 : decode cX10_rule 66 = .ok (.ireturn, 1) := by decide +kernel
theorem dX10_rule_67 : decode cX10_rule 67 = .ok (.aload_n 0, 1) := by decide +kernel
theorem dX10_rule_68 : decode cX10_rule 68 = .ok (.getfield 7, 3) := by decide +kernel
theorem dX10_rule_71 : decode cX10_rule 71 = .ok (.bipush 32, 2) := by decide +kernel
theorem dX10_rule_73 : decode cX10_rule 73 = .ok (.iaload, 1) := by decide +kernel
theorem dX10_rule_74 : decode cX10_rule 74 = .ok (.ireturn, 1) := by decide +kernel
theorem dX10_rule_75 : decode cX10_rule 75 = .ok (.iconst (-1), 1) := by decide +kernel
theorem dX10_rule_76 : decode cX10_rule 76 = .ok (.ireturn, 1) := by decide +kernel
theorem dX10_square_0 : decode cX10_square 0 = .ok (.iload_n 1, 1) := by decide +kernel
theorem dX10_square_1 : decode cX10_square 1 = .ok (.i2l, 1) := by decide +kernel
theorem dX10_square_2 : decode cX10_square 2 = .ok (.lconst 0, 1) := by decide +kernel
theorem dX10_square_3 : decode cX10_square 3 = .ok (.aload_n 0, 1) := by decide +kernel
theorem dX10_square_4 : decode cX10_square 4 = .ok (.getfield 116, 3) := by decide +kernel
theorem dX10_square_7 : decode cX10_square 7 = .ok (.iconst 1, 1) := by decide +kernel
theorem dX10_square_8 : decode cX10_square 8 = .ok (.isub, 1) := by decide +kernel
theorem dX10_square_9 : decode cX10_square 9 = .ok (.i2l, 1) := by decide +kernel
theorem dX10_square_10 : decode cX10_square 10 = .ok (.invokestatic 134, 3) := by decide +kernel
theorem dX10_square_13 : decode cX10_square 13 = .ok (.ifCond .ne 5, 3) := by decide +kernel
theorem dX10_square_16 : decode cX10_square 16 = .ok (.iconst (-1), 1) := by decide +kernel
theorem dX10_square_17 : decode cX10_square 17 = .ok (.ireturn, 1) := by decide +kernel
theorem dX10_square_18 : decode cX10_square 18 = .ok (.iload_n 2, 1) := by decide +kernel
theorem dX10_square_19 : decode cX10_square 19 = .ok (.tableswitch 88 0 4 #[33, 40, 47, 54, 61], 33) := by decide +kernel
theorem dX10_square_52 : decode cX10_square 52 = .ok (.aload_n 0, 1) := by decide +kernel
theorem dX10_square_53 : decode cX10_square 53 = .ok (.getfield 17, 3) := by decide +kernel
theorem dX10_square_56 : decode cX10_square 56 = .ok (.iload_n 1, 1) := by decide +kernel
theorem dX10_square_57 : decode cX10_square 57 = .ok (.iaload, 1) := by decide +kernel
theorem dX10_square_58 : decode cX10_square 58 = .ok (.ireturn, 1) := by decide +kernel
theorem dX10_square_59 : decode cX10_square 59 = .ok (.aload_n 0, 1) := by decide +kernel
theorem dX10_square_60 : decode cX10_square 60 = .ok (.getfield 20, 3) := by decide +kernel
theorem dX10_square_63 : decode cX10_square 63 = .ok (.iload_n 1, 1) := by decide +kernel
theorem dX10_square_64 : decode cX10_square 64 = .ok (.iaload, 1) := by decide +kernel
theorem dX10_square_65 : decode cX10_square 65 = .ok (.ireturn, 1) := by decide +kernel
theorem dX10_square_66 : decode cX10_square 66 = .ok (.aload_n 0, 1) := by decide +kernel
theorem dX10_square_67 : decode cX10_square 67 = .ok (.getfield 23, 3) := by decide +kernel
theorem dX10_square_70 : decode cX10_square 70 = .ok (.iload_n 1, 1) := by decide +kernel
theorem dX10_square_71 : decode cX10_square 71 = .ok (.iaload, 1) := by decide +kernel
theorem dX10_square_72 : decode cX10_square 72 = .ok (.ireturn, 1) := by decide +kernel
theorem dX10_square_73 : decode cX10_square 73 = .ok (.aload_n 0, 1) := by decide +kernel
theorem dX10_square_74 : decode cX10_square 74 = .ok (.getfield 26, 3) := by decide +kernel
theorem dX10_square_77 : decode cX10_square 77 = .ok (.iload_n 1, 1) := by decide +kernel
theorem dX10_square_78 : decode cX10_square 78 = .ok (.iaload, 1) := by decide +kernel
theorem dX10_square_79 : decode cX10_square 79 = .ok (.ireturn, 1) := by decide +kernel
theorem dX10_square_80 : decode cX10_square 80 = .ok (.aload_n 0, 1) := by decide +kernel
theorem dX10_square_81 : decode cX10_square 81 = .ok (.getfield 26, 3) := by decide +kernel
theorem dX10_square_84 : decode cX10_square 84 = .ok (.iload_n 1, 1) := by decide +kernel
theorem dX10_square_85 : decode cX10_square 85 = .ok (.iaload, 1) := by decide +kernel
theorem dX10_square_86 : decode cX10_square 86 = .ok (.aload_n 0, 1) := by decide +kernel
theorem dX10_square_87 : decode cX10_square 87 = .ok (.getfield 7, 3) := by decide +kernel
theorem dX10_square_90 : decode cX10_square 90 = .ok (.iconst 0, 1) := by decide +kernel
theorem dX10_square_91 : decode cX10_square 91 = .ok (.iaload, 1) := by decide +kernel
theorem dX10_square_92 : decode cX10_square 92 = .ok (.iconst (-1), 1) := by decide +kernel
theorem dX10_square_93 : decode cX10_square 93 = .ok (.ixor, 1) := by decide +kernel
theorem dX10_square_94 : decode cX10_square 94 = .ok (.iand, 1) := by decide +kernel
theorem dX10_square_95 : decode cX10_square 95 = .ok (.ifCond .ne 7, 3) := by decide +kernel
theorem dX10_square_98 : decode cX10_square 98 = .ok (.iconst 1, 1) := by decide +kernel
theorem dX10_square_99 : decode cX10_square 99 = .ok (.goto 4, 3) := by decide +kernel
theorem dX10_square_102 : decode cX10_square 102 = .ok (.iconst 0, 1) := by decide +kernel
theorem dX10_square_103 : decode cX10_square 103 = .ok (.invokestatic 209, 3) := by decide +kernel
theorem dX10_square_106 : decode cX10_square 106 = .ok (.ireturn, 1) := by decide +kernel
theorem dX10_square_107 : decode cX10_square 107 = .ok (.iconst (-1), 1) := by decide +kernel
theorem dX10_square_108 : decode cX10_square 108 = .ok (.ireturn, 1) := by decide +kernel
theorem dX10_cost_0 : decode cX10_cost 0 = .ok (.aload_n 0, 1) := by decide +kernel
theorem dX10_cost_1 : decode cX10_cost 1 = .ok (.iload_n 1, 1) := by decide +kernel
theorem dX10_cost_2 : decode cX10_cost 2 = .ok (.invokevirtual 213, 3) := by decide +kernel
theorem dX10_cost_5 : decode cX10_cost 5 = .ok (.ifCond .eq 14, 3) := by decide +kernel
theorem dX10_cost_8 : decode cX10_cost 8 = .ok (.aload_n 0, 1) := by decide +kernel
theorem dX10_cost_9 : decode cX10_cost 9 = .ok (.getfield 7, 3) := by decide +kernel
theorem dX10_cost_12 : decode cX10_cost 12 = .ok (.iconst 1, 1) := by decide +kernel
theorem dX10_cost_13 : decode cX10_cost 13 = .ok (.iload_n 1, 1) := by decide +kernel
theorem dX10_cost_14 : decode cX10_cost 14 = .ok (.iadd, 1) := by decide +kernel
theorem dX10_cost_15 : decode cX10_cost 15 = .ok (.iaload, 1) := by decide +kernel
theorem dX10_cost_16 : decode cX10_cost 16 = .ok (.goto 4, 3) := by decide +kernel
theorem dX10_cost_19 : decode cX10_cost 19 = .ok (.iconst (-1), 1) := by decide +kernel
theorem dX10_cost_20 : decode cX10_cost 20 = .ok (.ireturn, 1) := by decide +kernel
theorem dX10_whole_0 : decode cX10_whole 0 = .ok (.iload_n 1, 1) := by decide +kernel
theorem dX10_whole_1 : decode cX10_whole 1 = .ok (.i2l, 1) := by decide +kernel
theorem dX10_whole_2 : decode cX10_whole 2 = .ok (.lconst 1, 1) := by decide +kernel
theorem dX10_whole_3 : decode cX10_whole 3 = .ok (.ldc2_w 216, 3) := by decide +kernel
theorem dX10_whole_6 : decode cX10_whole 6 = .ok (.invokestatic 134, 3) := by decide +kernel
theorem dX10_whole_9 : decode cX10_whole 9 = .ok (.ifCond .eq 17, 3) := by decide +kernel
theorem dX10_whole_12 : decode cX10_whole 12 = .ok (.aload_n 0, 1) := by decide +kernel
theorem dX10_whole_13 : decode cX10_whole 13 = .ok (.iload_n 1, 1) := by decide +kernel
theorem dX10_whole_14 : decode cX10_whole 14 = .ok (.aload_n 0, 1) := by decide +kernel
theorem dX10_whole_15 : decode cX10_whole 15 = .ok (.getfield 7, 3) := by decide +kernel
theorem dX10_whole_18 : decode cX10_whole 18 = .ok (.iconst 0, 1) := by decide +kernel
theorem dX10_whole_19 : decode cX10_whole 19 = .ok (.iaload, 1) := by decide +kernel
theorem dX10_whole_20 : decode cX10_whole 20 = .ok (.invokevirtual 218, 3) := by decide +kernel
theorem dX10_whole_23 : decode cX10_whole 23 = .ok (.goto 4, 3) := by decide +kernel
theorem dX10_whole_26 : decode cX10_whole 26 = .ok (.iconst (-1), 1) := by decide +kernel
theorem dX10_whole_27 : decode cX10_whole 27 = .ok (.ireturn, 1) := by decide +kernel
theorem dX10_left_0 : decode cX10_left 0 = .ok (.aload_n 0, 1) := by decide +kernel
theorem dX10_left_1 : decode cX10_left 1 = .ok (.aload_n 0, 1) := by decide +kernel
theorem dX10_left_2 : decode cX10_left 2 = .ok (.getfield 7, 3) := by decide +kernel
theorem dX10_left_5 : decode cX10_left 5 = .ok (.iconst 0, 1) := by decide +kernel
theorem dX10_left_6 : decode cX10_left 6 = .ok (.iaload, 1) := by decide +kernel
theorem dX10_left_7 : decode cX10_left 7 = .ok (.invokevirtual 221, 3) := by decide +kernel
theorem dX10_left_10 : decode cX10_left 10 = .ok (.ireturn, 1) := by decide +kernel
theorem dX10_take_0 : decode cX10_take 0 = .ok (.aload_n 0, 1) := by decide +kernel
theorem dX10_take_1 : decode cX10_take 1 = .ok (.iload_n 1, 1) := by decide +kernel
theorem dX10_take_2 : decode cX10_take 2 = .ok (.invokevirtual 213, 3) := by decide +kernel
theorem dX10_take_5 : decode cX10_take 5 = .ok (.ifCond .ne 5, 3) := by decide +kernel
theorem dX10_take_8 : decode cX10_take 8 = .ok (.iconst (-1), 1) := by decide +kernel
theorem dX10_take_9 : decode cX10_take 9 = .ok (.ireturn, 1) := by decide +kernel
theorem dX10_take_10 : decode cX10_take 10 = .ok (.aload_n 0, 1) := by decide +kernel
theorem dX10_take_11 : decode cX10_take 11 = .ok (.iload_n 1, 1) := by decide +kernel
theorem dX10_take_12 : decode cX10_take 12 = .ok (.invokevirtual 224, 3) := by decide +kernel
theorem dX10_take_15 : decode cX10_take 15 = .ok (.ifCond .ne 6, 3) := by decide +kernel
theorem dX10_take_18 : decode cX10_take 18 = .ok (.bipush (-2), 2) := by decide +kernel
theorem dX10_take_20 : decode cX10_take 20 = .ok (.ireturn, 1) := by decide +kernel
theorem dX10_take_21 : decode cX10_take 21 = .ok (.aload_n 0, 1) := by decide +kernel
theorem dX10_take_22 : decode cX10_take 22 = .ok (.getfield 7, 3) := by decide +kernel
theorem dX10_take_25 : decode cX10_take 25 = .ok (.iconst 0, 1) := by decide +kernel
theorem dX10_take_26 : decode cX10_take 26 = .ok (.dup2, 1) := by decide +kernel
theorem dX10_take_27 : decode cX10_take 27 = .ok (.iaload, 1) := by decide +kernel
theorem dX10_take_28 : decode cX10_take 28 = .ok (.iconst 1, 1) := by decide +kernel
theorem dX10_take_29 : decode cX10_take 29 = .ok (.iload_n 1, 1) := by decide +kernel
theorem dX10_take_30 : decode cX10_take 30 = .ok (.ishl, 1) := by decide +kernel
theorem dX10_take_31 : decode cX10_take 31 = .ok (.iconst (-1), 1) := by decide +kernel
theorem dX10_take_32 : decode cX10_take 32 = .ok (.ixor, 1) := by decide +kernel
theorem dX10_take_33 : decode cX10_take 33 = .ok (.iand, 1) := by decide +kernel
theorem dX10_take_34 : decode cX10_take 34 = .ok (.iastore, 1) := by decide +kernel
theorem dX10_take_35 : decode cX10_take 35 = .ok (.aload_n 0, 1) := by decide +kernel
theorem dX10_take_36 : decode cX10_take 36 = .ok (.aload_n 0, 1) := by decide +kernel
theorem dX10_take_37 : decode cX10_take 37 = .ok (.getfield 7, 3) := by decide +kernel
theorem dX10_take_40 : decode cX10_take 40 = .ok (.iconst 0, 1) := by decide +kernel
theorem dX10_take_41 : decode cX10_take 41 = .ok (.iaload, 1) := by decide +kernel
theorem dX10_take_42 : decode cX10_take 42 = .ok (.invokevirtual 221, 3) := by decide +kernel
theorem dX10_take_45 : decode cX10_take 45 = .ok (.ireturn, 1) := by decide +kernel
theorem dX10_lie_0 : decode cX10_lie 0 = .ok (.aload_n 0, 1) := by decide +kernel
theorem dX10_lie_1 : decode cX10_lie 1 = .ok (.iload_n 1, 1) := by decide +kernel
theorem dX10_lie_2 : decode cX10_lie 2 = .ok (.invokevirtual 213, 3) := by decide +kernel
theorem dX10_lie_5 : decode cX10_lie 5 = .ok (.ifCond .ne 5, 3) := by decide +kernel
theorem dX10_lie_8 : decode cX10_lie 8 = .ok (.iconst (-1), 1) := by decide +kernel
theorem dX10_lie_9 : decode cX10_lie 9 = .ok (.ireturn, 1) := by decide +kernel
theorem dX10_lie_10 : decode cX10_lie 10 = .ok (.aload_n 0, 1) := by decide +kernel
theorem dX10_lie_11 : decode cX10_lie 11 = .ok (.iload_n 1, 1) := by decide +kernel
theorem dX10_lie_12 : decode cX10_lie 12 = .ok (.invokevirtual 224, 3) := by decide +kernel
theorem dX10_lie_15 : decode cX10_lie 15 = .ok (.ifCond .eq 6, 3) := by decide +kernel
theorem dX10_lie_18 : decode cX10_lie 18 = .ok (.bipush (-2), 2) := by decide +kernel
theorem dX10_lie_20 : decode cX10_lie 20 = .ok (.ireturn, 1) := by decide +kernel
theorem dX10_lie_21 : decode cX10_lie 21 = .ok (.aload_n 0, 1) := by decide +kernel
theorem dX10_lie_22 : decode cX10_lie 22 = .ok (.getfield 7, 3) := by decide +kernel
theorem dX10_lie_25 : decode cX10_lie 25 = .ok (.iconst 0, 1) := by decide +kernel
theorem dX10_lie_26 : decode cX10_lie 26 = .ok (.dup2, 1) := by decide +kernel
theorem dX10_lie_27 : decode cX10_lie 27 = .ok (.iaload, 1) := by decide +kernel
theorem dX10_lie_28 : decode cX10_lie 28 = .ok (.iconst 1, 1) := by decide +kernel
theorem dX10_lie_29 : decode cX10_lie 29 = .ok (.iload_n 1, 1) := by decide +kernel
theorem dX10_lie_30 : decode cX10_lie 30 = .ok (.ishl, 1) := by decide +kernel
theorem dX10_lie_31 : decode cX10_lie 31 = .ok (.ior, 1) := by decide +kernel
theorem dX10_lie_32 : decode cX10_lie 32 = .ok (.iastore, 1) := by decide +kernel
theorem dX10_lie_33 : decode cX10_lie 33 = .ok (.aload_n 0, 1) := by decide +kernel
theorem dX10_lie_34 : decode cX10_lie 34 = .ok (.aload_n 0, 1) := by decide +kernel
theorem dX10_lie_35 : decode cX10_lie 35 = .ok (.getfield 7, 3) := by decide +kernel
theorem dX10_lie_38 : decode cX10_lie 38 = .ok (.iconst 0, 1) := by decide +kernel
theorem dX10_lie_39 : decode cX10_lie 39 = .ok (.iaload, 1) := by decide +kernel
theorem dX10_lie_40 : decode cX10_lie 40 = .ok (.invokevirtual 221, 3) := by decide +kernel
theorem dX10_lie_43 : decode cX10_lie 43 = .ok (.ireturn, 1) := by decide +kernel
theorem dX10_price_0 : decode cX10_price 0 = .ok (.aload_n 0, 1) := by decide +kernel
theorem dX10_price_1 : decode cX10_price 1 = .ok (.iload_n 1, 1) := by decide +kernel
theorem dX10_price_2 : decode cX10_price 2 = .ok (.invokevirtual 213, 3) := by decide +kernel
theorem dX10_price_5 : decode cX10_price 5 = .ok (.ifCond .eq 15, 3) := by decide +kernel
theorem dX10_price_8 : decode cX10_price 8 = .ok (.iload_n 2, 1) := by decide +kernel
theorem dX10_price_9 : decode cX10_price 9 = .ok (.i2l, 1) := by decide +kernel
theorem dX10_price_10 : decode cX10_price 10 = .ok (.lconst 1, 1) := by decide +kernel
theorem dX10_price_11 : decode cX10_price 11 = .ok (.ldc2_w 227, 3) := by decide +kernel
theorem dX10_price_14 : decode cX10_price 14 = .ok (.invokestatic 134, 3) := by decide +kernel
theorem dX10_price_17 : decode cX10_price 17 = .ok (.ifCond .ne 5, 3) := by decide +kernel
theorem dX10_price_20 : decode cX10_price 20 = .ok (.iconst (-1), 1) := by decide +kernel
theorem dX10_price_21 : decode cX10_price 21 = .ok (.ireturn, 1) := by decide +kernel
theorem dX10_price_22 : decode cX10_price 22 = .ok (.aload_n 0, 1) := by decide +kernel
theorem dX10_price_23 : decode cX10_price 23 = .ok (.getfield 7, 3) := by decide +kernel
theorem dX10_price_26 : decode cX10_price 26 = .ok (.iconst 1, 1) := by decide +kernel
theorem dX10_price_27 : decode cX10_price 27 = .ok (.iload_n 1, 1) := by decide +kernel
theorem dX10_price_28 : decode cX10_price 28 = .ok (.iadd, 1) := by decide +kernel
theorem dX10_price_29 : decode cX10_price 29 = .ok (.iaload, 1) := by decide +kernel
theorem dX10_price_30 : decode cX10_price 30 = .ok (.istore_n 3, 1) := by decide +kernel
theorem dX10_price_31 : decode cX10_price 31 = .ok (.aload_n 0, 1) := by decide +kernel
theorem dX10_price_32 : decode cX10_price 32 = .ok (.getfield 7, 3) := by decide +kernel
theorem dX10_price_35 : decode cX10_price 35 = .ok (.iconst 1, 1) := by decide +kernel
theorem dX10_price_36 : decode cX10_price 36 = .ok (.iload_n 1, 1) := by decide +kernel
theorem dX10_price_37 : decode cX10_price 37 = .ok (.iadd, 1) := by decide +kernel
theorem dX10_price_38 : decode cX10_price 38 = .ok (.iload_n 2, 1) := by decide +kernel
theorem dX10_price_39 : decode cX10_price 39 = .ok (.iastore, 1) := by decide +kernel
theorem dX10_price_40 : decode cX10_price 40 = .ok (.iload_n 3, 1) := by decide +kernel
theorem dX10_price_41 : decode cX10_price 41 = .ok (.ireturn, 1) := by decide +kernel
theorem dX10_counts_0 : decode cX10_counts 0 = .ok (.iload_n 1, 1) := by decide +kernel
theorem dX10_counts_1 : decode cX10_counts 1 = .ok (.i2l, 1) := by decide +kernel
theorem dX10_counts_2 : decode cX10_counts 2 = .ok (.lconst 1, 1) := by decide +kernel
theorem dX10_counts_3 : decode cX10_counts 3 = .ok (.ldc2_w 216, 3) := by decide +kernel
theorem dX10_counts_6 : decode cX10_counts 6 = .ok (.invokestatic 134, 3) := by decide +kernel
theorem dX10_counts_9 : decode cX10_counts 9 = .ok (.ifCond .ne 5, 3) := by decide +kernel
theorem dX10_counts_12 : decode cX10_counts 12 = .ok (.iconst (-1), 1) := by decide +kernel
theorem dX10_counts_13 : decode cX10_counts 13 = .ok (.ireturn, 1) := by decide +kernel
theorem dX10_counts_14 : decode cX10_counts 14 = .ok (.aload_n 0, 1) := by decide +kernel
theorem dX10_counts_15 : decode cX10_counts 15 = .ok (.getfield 7, 3) := by decide +kernel
theorem dX10_counts_18 : decode cX10_counts 18 = .ok (.bipush 32, 2) := by decide +kernel
theorem dX10_counts_20 : decode cX10_counts 20 = .ok (.iaload, 1) := by decide +kernel
theorem dX10_counts_21 : decode cX10_counts 21 = .ok (.iload_n 1, 1) := by decide +kernel
theorem dX10_counts_22 : decode cX10_counts 22 = .ok (.ishr, 1) := by decide +kernel
theorem dX10_counts_23 : decode cX10_counts 23 = .ok (.iconst 1, 1) := by decide +kernel
theorem dX10_counts_24 : decode cX10_counts 24 = .ok (.iand, 1) := by decide +kernel
theorem dX10_counts_25 : decode cX10_counts 25 = .ok (.istore_n 3, 1) := by decide +kernel
theorem dX10_counts_26 : decode cX10_counts 26 = .ok (.aload_n 0, 1) := by decide +kernel
theorem dX10_counts_27 : decode cX10_counts 27 = .ok (.getfield 7, 3) := by decide +kernel
theorem dX10_counts_30 : decode cX10_counts 30 = .ok (.bipush 32, 2) := by decide +kernel
theorem dX10_counts_32 : decode cX10_counts 32 = .ok (.iload_n 2, 1) := by decide +kernel
theorem dX10_counts_33 : decode cX10_counts 33 = .ok (.ifCond .eq 17, 3) := by decide +kernel
theorem dX10_counts_36 : decode cX10_counts 36 = .ok (.aload_n 0, 1) := by decide +kernel
theorem dX10_counts_37 : decode cX10_counts 37 = .ok (.getfield 7, 3) := by decide +kernel
theorem dX10_counts_40 : decode cX10_counts 40 = .ok (.bipush 32, 2) := by decide +kernel
theorem dX10_counts_42 : decode cX10_counts 42 = .ok (.iaload, 1) := by decide +kernel
theorem dX10_counts_43 : decode cX10_counts 43 = .ok (.iconst 1, 1) := by decide +kernel
theorem dX10_counts_44 : decode cX10_counts 44 = .ok (.iload_n 1, 1) := by decide +kernel
theorem dX10_counts_45 : decode cX10_counts 45 = .ok (.ishl, 1) := by decide +kernel
theorem dX10_counts_46 : decode cX10_counts 46 = .ok (.ior, 1) := by decide +kernel
theorem dX10_counts_47 : decode cX10_counts 47 = .ok (.goto 16, 3) := by decide +kernel
theorem dX10_counts_50 : decode cX10_counts 50 = .ok (.aload_n 0, 1) := by decide +kernel
theorem dX10_counts_51 : decode cX10_counts 51 = .ok (.getfield 7, 3) := by decide +kernel
theorem dX10_counts_54 : decode cX10_counts 54 = .ok (.bipush 32, 2) := by decide +kernel
theorem dX10_counts_56 : decode cX10_counts 56 = .ok (.iaload, 1) := by decide +kernel
theorem dX10_counts_57 : decode cX10_counts 57 = .ok (.iconst 1, 1) := by decide +kernel
theorem dX10_counts_58 : decode cX10_counts 58 = .ok (.iload_n 1, 1) := by decide +kernel
theorem dX10_counts_59 : decode cX10_counts 59 = .ok (.ishl, 1) := by decide +kernel
theorem dX10_counts_60 : decode cX10_counts 60 = .ok (.iconst (-1), 1) := by decide +kernel
theorem dX10_counts_61 : decode cX10_counts 61 = .ok (.ixor, 1) := by decide +kernel
theorem dX10_counts_62 : decode cX10_counts 62 = .ok (.iand, 1) := by decide +kernel
theorem dX10_counts_63 : decode cX10_counts 63 = .ok (.iastore, 1) := by decide +kernel
theorem dX10_counts_64 : decode cX10_counts 64 = .ok (.iload_n 3, 1) := by decide +kernel
theorem dX10_counts_65 : decode cX10_counts 65 = .ok (.ireturn, 1) := by decide +kernel
theorem dX10_firstWhole_0 : decode cX10_firstWhole 0 = .ok (.iconst 0, 1) := by decide +kernel
theorem dX10_firstWhole_1 : decode cX10_firstWhole 1 = .ok (.istore_n 2, 1) := by decide +kernel
theorem dX10_firstWhole_2 : decode cX10_firstWhole 2 = .ok (.iload_n 2, 1) := by decide +kernel
theorem dX10_firstWhole_3 : decode cX10_firstWhole 3 = .ok (.aload_n 0, 1) := by decide +kernel
theorem dX10_firstWhole_4 : decode cX10_firstWhole 4 = .ok (.getfield 116, 3) := by decide +kernel
theorem dX10_firstWhole_7 : decode cX10_firstWhole 7 = .ok (.if_icmp .ge 41, 3) := by decide +kernel
theorem dX10_firstWhole_10 : decode cX10_firstWhole 10 = .ok (.aload_n 0, 1) := by decide +kernel
theorem dX10_firstWhole_11 : decode cX10_firstWhole 11 = .ok (.iload_n 2, 1) := by decide +kernel
theorem dX10_firstWhole_12 : decode cX10_firstWhole 12 = .ok (.invokevirtual 205, 3) := by decide +kernel
theorem dX10_firstWhole_15 : decode cX10_firstWhole 15 = .ok (.ifCond .eq 27, 3) := by decide +kernel
theorem dX10_firstWhole_18 : decode cX10_firstWhole 18 = .ok (.aload_n 0, 1) := by decide +kernel
theorem dX10_firstWhole_19 : decode cX10_firstWhole 19 = .ok (.getfield 26, 3) := by decide +kernel
theorem dX10_firstWhole_22 : decode cX10_firstWhole 22 = .ok (.iload_n 2, 1) := by decide +kernel
theorem dX10_firstWhole_23 : decode cX10_firstWhole 23 = .ok (.iaload, 1) := by decide +kernel
theorem dX10_firstWhole_24 : decode cX10_firstWhole 24 = .ok (.aload_n 0, 1) := by decide +kernel
theorem dX10_firstWhole_25 : decode cX10_firstWhole 25 = .ok (.getfield 7, 3) := by decide +kernel
theorem dX10_firstWhole_28 : decode cX10_firstWhole 28 = .ok (.iconst 0, 1) := by decide +kernel
theorem dX10_firstWhole_29 : decode cX10_firstWhole 29 = .ok (.iaload, 1) := by decide +kernel
theorem dX10_firstWhole_30 : decode cX10_firstWhole 30 = .ok (.iload_n 1, 1) := by decide +kernel
theorem dX10_firstWhole_31 : decode cX10_firstWhole 31 = .ok (.iconst (-1), 1) := by decide +kernel
theorem dX10_firstWhole_32 : decode cX10_firstWhole 32 = .ok (.ixor, 1) := by decide +kernel
theorem dX10_firstWhole_33 : decode cX10_firstWhole 33 = .ok (.iand, 1) := by decide +kernel
theorem dX10_firstWhole_34 : decode cX10_firstWhole 34 = .ok (.iconst (-1), 1) := by decide +kernel
theorem dX10_firstWhole_35 : decode cX10_firstWhole 35 = .ok (.ixor, 1) := by decide +kernel
theorem dX10_firstWhole_36 : decode cX10_firstWhole 36 = .ok (.iand, 1) := by decide +kernel
theorem dX10_firstWhole_37 : decode cX10_firstWhole 37 = .ok (.ifCond .ne 5, 3) := by decide +kernel
theorem dX10_firstWhole_40 : decode cX10_firstWhole 40 = .ok (.iload_n 2, 1) := by decide +kernel
theorem dX10_firstWhole_41 : decode cX10_firstWhole 41 = .ok (.ireturn, 1) := by decide +kernel
theorem dX10_firstWhole_42 : decode cX10_firstWhole 42 = .ok (.iinc 2 1, 3) := by decide +kernel
theorem dX10_firstWhole_45 : decode cX10_firstWhole 45 = .ok (.goto (-43), 3) := by decide +kernel
theorem dX10_firstWhole_48 : decode cX10_firstWhole 48 = .ok (.bipush (-4), 2) := by decide +kernel
theorem dX10_firstWhole_50 : decode cX10_firstWhole 50 = .ok (.ireturn, 1) := by decide +kernel
theorem dX10_takesSet_0 : decode cX10_takesSet 0 = .ok (.iload_n 2, 1) := by decide +kernel
theorem dX10_takesSet_1 : decode cX10_takesSet 1 = .ok (.aload_n 0, 1) := by decide +kernel
theorem dX10_takesSet_2 : decode cX10_takesSet 2 = .ok (.getfield 229, 3) := by decide +kernel
theorem dX10_takesSet_5 : decode cX10_takesSet 5 = .ok (.if_icmp .ge 7, 3) := by decide +kernel
theorem dX10_takesSet_8 : decode cX10_takesSet 8 = .ok (.iconst 1, 1) := by decide +kernel
theorem dX10_takesSet_9 : decode cX10_takesSet 9 = .ok (.goto 4, 3) := by decide +kernel
theorem dX10_takesSet_12 : decode cX10_takesSet 12 = .ok (.iconst 0, 1) := by decide +kernel
theorem dX10_takesSet_13 : decode cX10_takesSet 13 = .ok (.istore_n 3, 1) := by decide +kernel
theorem dX10_takesSet_14 : decode cX10_takesSet 14 = .ok (.aload_n 0, 1) := by decide +kernel
theorem dX10_takesSet_15 : decode cX10_takesSet 15 = .ok (.iload_n 3, 1) := by decide +kernel
theorem dX10_takesSet_16 : decode cX10_takesSet 16 = .ok (.ifCond .eq 7, 3) := by decide +kernel
theorem dX10_takesSet_19 : decode cX10_takesSet 19 = .ok (.iconst 1, 1) := by decide +kernel
theorem dX10_takesSet_20 : decode cX10_takesSet 20 = .ok (.goto 24, 3) := by decide +kernel
theorem dX10_takesSet_23 : decode cX10_takesSet 23 = .ok (.aload_n 0, 1) := by decide +kernel
theorem dX10_takesSet_24 : decode cX10_takesSet 24 = .ok (.getfield 232, 3) := by decide +kernel
theorem dX10_takesSet_27 : decode cX10_takesSet 27 = .ok (.iload_n 2, 1) := by decide +kernel
theorem dX10_takesSet_28 : decode cX10_takesSet 28 = .ok (.aload_n 0, 1) := by decide +kernel
theorem dX10_takesSet_29 : decode cX10_takesSet 29 = .ok (.getfield 229, 3) := by decide +kernel
theorem dX10_takesSet_32 : decode cX10_takesSet 32 = .ok (.if_icmp .ne 7, 3) := by decide +kernel
theorem dX10_takesSet_35 : decode cX10_takesSet 35 = .ok (.iconst 1, 1) := by decide +kernel
theorem dX10_takesSet_36 : decode cX10_takesSet 36 = .ok (.goto 4, 3) := by decide +kernel
theorem dX10_takesSet_39 : decode cX10_takesSet 39 = .ok (.iconst 0, 1) := by decide +kernel
theorem dX10_takesSet_40 : decode cX10_takesSet 40 = .ok (.invokestatic 209, 3) := by decide +kernel
theorem dX10_takesSet_43 : decode cX10_takesSet 43 = .ok (.iadd, 1) := by decide +kernel
theorem dX10_takesSet_44 : decode cX10_takesSet 44 = .ok (.putfield 232, 3) := by decide +kernel
theorem dX10_takesSet_47 : decode cX10_takesSet 47 = .ok (.aload_n 0, 1) := by decide +kernel
theorem dX10_takesSet_48 : decode cX10_takesSet 48 = .ok (.iload_n 3, 1) := by decide +kernel
theorem dX10_takesSet_49 : decode cX10_takesSet 49 = .ok (.ifCond .ne 19, 3) := by decide +kernel
theorem dX10_takesSet_52 : decode cX10_takesSet 52 = .ok (.iload_n 2, 1) := by decide +kernel
theorem dX10_takesSet_53 : decode cX10_takesSet 53 = .ok (.aload_n 0, 1) := by decide +kernel
theorem dX10_takesSet_54 : decode cX10_takesSet 54 = .ok (.getfield 229, 3) := by decide +kernel
theorem dX10_takesSet_57 : decode cX10_takesSet 57 = .ok (.if_icmp .ne 15, 3) := by decide +kernel
theorem dX10_takesSet_60 : decode cX10_takesSet 60 = .ok (.iload_n 1, 1) := by decide +kernel
theorem dX10_takesSet_61 : decode cX10_takesSet 61 = .ok (.aload_n 0, 1) := by decide +kernel
theorem dX10_takesSet_62 : decode cX10_takesSet 62 = .ok (.getfield 235, 3) := by decide +kernel
theorem dX10_takesSet_65 : decode cX10_takesSet 65 = .ok (.if_icmp .ge 7, 3) := by decide +kernel
theorem dX10_takesSet_68 : decode cX10_takesSet 68 = .ok (.iload_n 1, 1) := by decide +kernel
theorem dX10_takesSet_69 : decode cX10_takesSet 69 = .ok (.goto 7, 3) := by decide +kernel
theorem dX10_takesSet_72 : decode cX10_takesSet 72 = .ok (.aload_n 0, 1) := by decide +kernel
theorem dX10_takesSet_73 : decode cX10_takesSet 73 = .ok (.getfield 235, 3) := by decide +kernel
theorem dX10_takesSet_76 : decode cX10_takesSet 76 = .ok (.putfield 235, 3) := by decide +kernel
theorem dX10_takesSet_79 : decode cX10_takesSet 79 = .ok (.aload_n 0, 1) := by decide +kernel
theorem dX10_takesSet_80 : decode cX10_takesSet 80 = .ok (.iload_n 3, 1) := by decide +kernel
theorem dX10_takesSet_81 : decode cX10_takesSet 81 = .ok (.ifCond .eq 7, 3) := by decide +kernel
theorem dX10_takesSet_84 : decode cX10_takesSet 84 = .ok (.iload_n 2, 1) := by decide +kernel
theorem dX10_takesSet_85 : decode cX10_takesSet 85 = .ok (.goto 7, 3) := by decide +kernel
theorem dX10_takesSet_88 : decode cX10_takesSet 88 = .ok (.aload_n 0, 1) := by decide +kernel
theorem dX10_takesSet_89 : decode cX10_takesSet 89 = .ok (.getfield 229, 3) := by decide +kernel
theorem dX10_takesSet_92 : decode cX10_takesSet 92 = .ok (.putfield 229, 3) := by decide +kernel
theorem dX10_takesSet_95 : decode cX10_takesSet 95 = .ok (.return_, 1) := by decide +kernel
theorem dX10_enters_0 : decode cX10_enters 0 = .ok (.aload_n 0, 1) := by decide +kernel
theorem dX10_enters_1 : decode cX10_enters 1 = .ok (.getfield 38, 3) := by decide +kernel
theorem dX10_enters_4 : decode cX10_enters 4 = .ok (.iload_n 1, 1) := by decide +kernel
theorem dX10_enters_5 : decode cX10_enters 5 = .ok (.aload_n 0, 1) := by decide +kernel
theorem dX10_enters_6 : decode cX10_enters 6 = .ok (.aload_n 0, 1) := by decide +kernel
theorem dX10_enters_7 : decode cX10_enters 7 = .ok (.getfield 44, 3) := by decide +kernel
theorem dX10_enters_10 : decode cX10_enters 10 = .ok (.iload_n 1, 1) := by decide +kernel
theorem dX10_enters_11 : decode cX10_enters 11 = .ok (.iaload, 1) := by decide +kernel
theorem dX10_enters_12 : decode cX10_enters 12 = .ok (.invokevirtual 238, 3) := by decide +kernel
theorem dX10_enters_15 : decode cX10_enters 15 = .ok (.iastore, 1) := by decide +kernel
theorem dX10_enters_16 : decode cX10_enters 16 = .ok (.aload_n 0, 1) := by decide +kernel
theorem dX10_enters_17 : decode cX10_enters 17 = .ok (.getfield 41, 3) := by decide +kernel
theorem dX10_enters_20 : decode cX10_enters 20 = .ok (.iload_n 1, 1) := by decide +kernel
theorem dX10_enters_21 : decode cX10_enters 21 = .ok (.iconst 0, 1) := by decide +kernel
theorem dX10_enters_22 : decode cX10_enters 22 = .ok (.iastore, 1) := by decide +kernel
theorem dX10_enters_23 : decode cX10_enters 23 = .ok (.aload_n 0, 1) := by decide +kernel
theorem dX10_enters_24 : decode cX10_enters 24 = .ok (.getfield 38, 3) := by decide +kernel
theorem dX10_enters_27 : decode cX10_enters 27 = .ok (.iload_n 1, 1) := by decide +kernel
theorem dX10_enters_28 : decode cX10_enters 28 = .ok (.iaload, 1) := by decide +kernel
theorem dX10_enters_29 : decode cX10_enters 29 = .ok (.bipush (-4), 2) := by decide +kernel
theorem dX10_enters_31 : decode cX10_enters 31 = .ok (.if_icmp .ne 19, 3) := by decide +kernel
theorem dX10_enters_34 : decode cX10_enters 34 = .ok (.aload_n 0, 1) := by decide +kernel
theorem dX10_enters_35 : decode cX10_enters 35 = .ok (.aload_n 0, 1) := by decide +kernel
theorem dX10_enters_36 : decode cX10_enters 36 = .ok (.getfield 44, 3) := by decide +kernel
theorem dX10_enters_39 : decode cX10_enters 39 = .ok (.iload_n 1, 1) := by decide +kernel
theorem dX10_enters_40 : decode cX10_enters 40 = .ok (.iaload, 1) := by decide +kernel
theorem dX10_enters_41 : decode cX10_enters 41 = .ok (.aload_n 0, 1) := by decide +kernel
theorem dX10_enters_42 : decode cX10_enters 42 = .ok (.getfield 50, 3) := by decide +kernel
theorem dX10_enters_45 : decode cX10_enters 45 = .ok (.iload_n 1, 1) := by decide +kernel
theorem dX10_enters_46 : decode cX10_enters 46 = .ok (.iaload, 1) := by decide +kernel
theorem dX10_enters_47 : decode cX10_enters 47 = .ok (.invokevirtual 241, 3) := by decide +kernel
theorem dX10_enters_50 : decode cX10_enters 50 = .ok (.return_, 1) := by decide +kernel
theorem dX10_findBreaks_0 : decode cX10_findBreaks 0 = .ok (.aload_n 0, 1) := by decide +kernel
theorem dX10_findBreaks_1 : decode cX10_findBreaks 1 = .ok (.ldc 245, 2) := by decide +kernel
theorem dX10_findBreaks_3 : decode cX10_findBreaks 3 = .ok (.putfield 229, 3) := by decide +kernel
theorem dX10_findBreaks_6 : decode cX10_findBreaks 6 = .ok (.aload_n 0, 1) := by decide +kernel
theorem dX10_findBreaks_7 : decode cX10_findBreaks 7 = .ok (.iconst 0, 1) := by decide +kernel
theorem dX10_findBreaks_8 : decode cX10_findBreaks 8 = .ok (.putfield 235, 3) := by decide +kernel
theorem dX10_findBreaks_11 : decode cX10_findBreaks 11 = .ok (.aload_n 0, 1) := by decide +kernel
theorem dX10_findBreaks_12 : decode cX10_findBreaks 12 = .ok (.iconst 0, 1) := by decide +kernel
theorem dX10_findBreaks_13 : decode cX10_findBreaks 13 = .ok (.putfield 232, 3) := by decide +kernel
theorem dX10_findBreaks_16 : decode cX10_findBreaks 16 = .ok (.aload_n 0, 1) := by decide +kernel
theorem dX10_findBreaks_17 : decode cX10_findBreaks 17 = .ok (.getfield 44, 3) := by decide +kernel
theorem dX10_findBreaks_20 : decode cX10_findBreaks 20 = .ok (.iconst 0, 1) := by decide +kernel
theorem dX10_findBreaks_21 : decode cX10_findBreaks 21 = .ok (.iconst 0, 1) := by decide +kernel
theorem dX10_findBreaks_22 : decode cX10_findBreaks 22 = .ok (.iastore, 1) := by decide +kernel
theorem dX10_findBreaks_23 : decode cX10_findBreaks 23 = .ok (.aload_n 0, 1) := by decide +kernel
theorem dX10_findBreaks_24 : decode cX10_findBreaks 24 = .ok (.getfield 47, 3) := by decide +kernel
theorem dX10_findBreaks_27 : decode cX10_findBreaks 27 = .ok (.iconst 0, 1) := by decide +kernel
theorem dX10_findBreaks_28 : decode cX10_findBreaks 28 = .ok (.iconst 0, 1) := by decide +kernel
theorem dX10_findBreaks_29 : decode cX10_findBreaks 29 = .ok (.iastore, 1) := by decide +kernel
theorem dX10_findBreaks_30 : decode cX10_findBreaks 30 = .ok (.aload_n 0, 1) := by decide +kernel
theorem dX10_findBreaks_31 : decode cX10_findBreaks 31 = .ok (.getfield 50, 3) := by decide +kernel
theorem dX10_findBreaks_34 : decode cX10_findBreaks 34 = .ok (.iconst 0, 1) := by decide +kernel
theorem dX10_findBreaks_35 : decode cX10_findBreaks 35 = .ok (.iconst 0, 1) := by decide +kernel
theorem dX10_findBreaks_36 : decode cX10_findBreaks 36 = .ok (.iastore, 1) := by decide +kernel
theorem dX10_findBreaks_37 : decode cX10_findBreaks 37 = .ok (.iconst 0, 1) := by decide +kernel
theorem dX10_findBreaks_38 : decode cX10_findBreaks 38 = .ok (.istore_n 2, 1) := by decide +kernel
theorem dX10_findBreaks_39 : decode cX10_findBreaks 39 = .ok (.aload_n 0, 1) := by decide +kernel
theorem dX10_findBreaks_40 : decode cX10_findBreaks 40 = .ok (.iconst 0, 1) := by decide +kernel
theorem dX10_findBreaks_41 : decode cX10_findBreaks 41 = .ok (.invokevirtual 246, 3) := by decide +kernel
theorem dX10_findBreaks_44 : decode cX10_findBreaks 44 = .ok (.iload_n 2, 1) := by decide +kernel
theorem dX10_findBreaks_45 : decode cX10_findBreaks 45 = .ok (.ifCond .lt 213, 3) := by decide +kernel
theorem dX10_findBreaks_48 : decode cX10_findBreaks 48 = .ok (.aload_n 0, 1) := by decide +kernel
theorem dX10_findBreaks_49 : decode cX10_findBreaks 49 = .ok (.getfield 38, 3) := by decide +kernel
theorem dX10_findBreaks_52 : decode cX10_findBreaks 52 = .ok (.iload_n 2, 1) := by decide +kernel
theorem dX10_findBreaks_53 : decode cX10_findBreaks 53 = .ok (.iaload, 1) := by decide +kernel
theorem dX10_findBreaks_54 : decode cX10_findBreaks 54 = .ok (.bipush (-4), 2) := by decide +kernel
theorem dX10_findBreaks_56 : decode cX10_findBreaks 56 = .ok (.if_icmp .eq 16, 3) := by decide +kernel
theorem dX10_findBreaks_59 : decode cX10_findBreaks 59 = .ok (.aload_n 0, 1) := by decide +kernel
theorem dX10_findBreaks_60 : decode cX10_findBreaks 60 = .ok (.getfield 41, 3) := by decide +kernel
theorem dX10_findBreaks_63 : decode cX10_findBreaks 63 = .ok (.iload_n 2, 1) := by decide +kernel
theorem dX10_findBreaks_64 : decode cX10_findBreaks 64 = .ok (.iaload, 1) := by decide +kernel
theorem dX10_findBreaks_65 : decode cX10_findBreaks 65 = .ok (.aload_n 0, 1) := by decide +kernel
theorem dX10_findBreaks_66 : decode cX10_findBreaks 66 = .ok (.getfield 123, 3) := by decide +kernel
theorem dX10_findBreaks_69 : decode cX10_findBreaks 69 = .ok (.if_icmp .ne 9, 3) := by decide +kernel
theorem dX10_findBreaks_72 : decode cX10_findBreaks 72 = .ok (.iinc 2 (-1), 3) := by decide +kernel
theorem dX10_findBreaks_75 : decode cX10_findBreaks 75 = .ok (.goto (-31), 3) := by decide +kernel
theorem dX10_findBreaks_78 : decode cX10_findBreaks 78 = .ok (.aload_n 0, 1) := by decide +kernel
theorem dX10_findBreaks_79 : decode cX10_findBreaks 79 = .ok (.getfield 41, 3) := by decide +kernel
theorem dX10_findBreaks_82 : decode cX10_findBreaks 82 = .ok (.iload_n 2, 1) := by decide +kernel
theorem dX10_findBreaks_83 : decode cX10_findBreaks 83 = .ok (.iaload, 1) := by decide +kernel
theorem dX10_findBreaks_84 : decode cX10_findBreaks 84 = .ok (.istore_n 3, 1) := by decide +kernel
theorem dX10_findBreaks_85 : decode cX10_findBreaks 85 = .ok (.aload_n 0, 1) := by decide +kernel
theorem dX10_findBreaks_86 : decode cX10_findBreaks 86 = .ok (.getfield 41, 3) := by decide +kernel
theorem dX10_findBreaks_89 : decode cX10_findBreaks 89 = .ok (.iload_n 2, 1) := by decide +kernel
theorem dX10_findBreaks_90 : decode cX10_findBreaks 90 = .ok (.dup2, 1) := by decide +kernel
theorem dX10_findBreaks_91 : decode cX10_findBreaks 91 = .ok (.iaload, 1) := by decide +kernel
theorem dX10_findBreaks_92 : decode cX10_findBreaks 92 = .ok (.iconst 1, 1) := by decide +kernel
theorem dX10_findBreaks_93 : decode cX10_findBreaks 93 = .ok (.iadd, 1) := by decide +kernel
theorem dX10_findBreaks_94 : decode cX10_findBreaks 94 = .ok (.iastore, 1) := by decide +kernel
theorem dX10_findBreaks_95 : decode cX10_findBreaks 95 = .ok (.aload_n 0, 1) := by decide +kernel
theorem dX10_findBreaks_96 : decode cX10_findBreaks 96 = .ok (.getfield 26, 3) := by decide +kernel
theorem dX10_findBreaks_99 : decode cX10_findBreaks 99 = .ok (.aload_n 0, 1) := by decide +kernel
theorem dX10_findBreaks_100 : decode cX10_findBreaks 100 = .ok (.getfield 38, 3) := by decide +kernel
theorem dX10_findBreaks_103 : decode cX10_findBreaks 103 = .ok (.iload_n 2, 1) := by decide +kernel
theorem dX10_findBreaks_104 : decode cX10_findBreaks 104 = .ok (.iaload, 1) := by decide +kernel
theorem dX10_findBreaks_105 : decode cX10_findBreaks 105 = .ok (.iaload, 1) := by decide +kernel
theorem dX10_findBreaks_106 : decode cX10_findBreaks 106 = .ok (.iload_n 3, 1) := by decide +kernel
theorem dX10_findBreaks_107 : decode cX10_findBreaks 107 = .ok (.ishr, 1) := by decide +kernel
theorem dX10_findBreaks_108 : decode cX10_findBreaks 108 = .ok (.iconst 1, 1) := by decide +kernel
theorem dX10_findBreaks_109 : decode cX10_findBreaks 109 = .ok (.iand, 1) := by decide +kernel
theorem dX10_findBreaks_110 : decode cX10_findBreaks 110 = .ok (.iconst 1, 1) := by decide +kernel
theorem dX10_findBreaks_111 : decode cX10_findBreaks 111 = .ok (.if_icmp .ne 20, 3) := by decide +kernel
theorem dX10_findBreaks_114 : decode cX10_findBreaks 114 = .ok (.aload_n 0, 1) := by decide +kernel
theorem dX10_findBreaks_115 : decode cX10_findBreaks 115 = .ok (.getfield 47, 3) := by decide +kernel
theorem dX10_findBreaks_118 : decode cX10_findBreaks 118 = .ok (.iload_n 2, 1) := by decide +kernel
theorem dX10_findBreaks_119 : decode cX10_findBreaks 119 = .ok (.iaload, 1) := by decide +kernel
theorem dX10_findBreaks_120 : decode cX10_findBreaks 120 = .ok (.iload_n 3, 1) := by decide +kernel
theorem dX10_findBreaks_121 : decode cX10_findBreaks 121 = .ok (.ishr, 1) := by decide +kernel
theorem dX10_findBreaks_122 : decode cX10_findBreaks 122 = .ok (.iconst 1, 1) := by decide +kernel
theorem dX10_findBreaks_123 : decode cX10_findBreaks 123 = .ok (.iand, 1) := by decide +kernel
theorem dX10_findBreaks_124 : decode cX10_findBreaks 124 = .ok (.ifCond .ne 7, 3) := by decide +kernel
theorem dX10_findBreaks_127 : decode cX10_findBreaks 127 = .ok (.iconst 1, 1) := by decide +kernel
theorem dX10_findBreaks_128 : decode cX10_findBreaks 128 = .ok (.goto 4, 3) := by decide +kernel
theorem dX10_findBreaks_131 : decode cX10_findBreaks 131 = .ok (.iconst 0, 1) := by decide +kernel
theorem dX10_findBreaks_132 : decode cX10_findBreaks 132 = .ok (.istore 4, 2) := by decide +kernel
theorem dX10_findBreaks_134 : decode cX10_findBreaks 134 = .ok (.aload_n 0, 1) := by decide +kernel
theorem dX10_findBreaks_135 : decode cX10_findBreaks 135 = .ok (.getfield 50, 3) := by decide +kernel
theorem dX10_findBreaks_138 : decode cX10_findBreaks 138 = .ok (.iload_n 2, 1) := by decide +kernel
theorem dX10_findBreaks_139 : decode cX10_findBreaks 139 = .ok (.iaload, 1) := by decide +kernel
theorem dX10_findBreaks_140 : decode cX10_findBreaks 140 = .ok (.iload_n 1, 1) := by decide +kernel
theorem dX10_findBreaks_141 : decode cX10_findBreaks 141 = .ok (.ifCond .eq 14, 3) := by decide +kernel
theorem dX10_findBreaks_144 : decode cX10_findBreaks 144 = .ok (.aload_n 0, 1) := by decide +kernel
theorem dX10_findBreaks_145 : decode cX10_findBreaks 145 = .ok (.getfield 7, 3) := by decide +kernel
theorem dX10_findBreaks_148 : decode cX10_findBreaks 148 = .ok (.iconst 1, 1) := by decide +kernel
theorem dX10_findBreaks_149 : decode cX10_findBreaks 149 = .ok (.iload_n 3, 1) := by decide +kernel
theorem dX10_findBreaks_150 : decode cX10_findBreaks 150 = .ok (.iadd, 1) := by decide +kernel
theorem dX10_findBreaks_151 : decode cX10_findBreaks 151 = .ok (.iaload, 1) := by decide +kernel
theorem dX10_findBreaks_152 : decode cX10_findBreaks 152 = .ok (.goto 4, 3) := by decide +kernel
theorem dX10_findBreaks_155 : decode cX10_findBreaks 155 = .ok (.iconst 1, 1) := by decide +kernel
theorem dX10_findBreaks_156 : decode cX10_findBreaks 156 = .ok (.iadd, 1) := by decide +kernel
theorem dX10_findBreaks_157 : decode cX10_findBreaks 157 = .ok (.istore 5, 2) := by decide +kernel
theorem dX10_findBreaks_159 : decode cX10_findBreaks 159 = .ok (.iload 4, 2) := by decide +kernel
theorem dX10_findBreaks_161 : decode cX10_findBreaks 161 = .ok (.ifCond .eq 77, 3) := by decide +kernel
theorem dX10_findBreaks_164 : decode cX10_findBreaks 164 = .ok (.iload 5, 2) := by decide +kernel
theorem dX10_findBreaks_166 : decode cX10_findBreaks 166 = .ok (.aload_n 0, 1) := by decide +kernel
theorem dX10_findBreaks_167 : decode cX10_findBreaks 167 = .ok (.getfield 229, 3) := by decide +kernel
theorem dX10_findBreaks_170 : decode cX10_findBreaks 170 = .ok (.if_icmp .gt 68, 3) := by decide +kernel
theorem dX10_findBreaks_173 : decode cX10_findBreaks 173 = .ok (.aload_n 0, 1) := by decide +kernel
theorem dX10_findBreaks_174 : decode cX10_findBreaks 174 = .ok (.getfield 44, 3) := by decide +kernel
theorem dX10_findBreaks_177 : decode cX10_findBreaks 177 = .ok (.iload_n 2, 1) := by decide +kernel
theorem dX10_findBreaks_178 : decode cX10_findBreaks 178 = .ok (.iconst 1, 1) := by decide +kernel
theorem dX10_findBreaks_179 : decode cX10_findBreaks 179 = .ok (.iadd, 1) := by decide +kernel
theorem dX10_findBreaks_180 : decode cX10_findBreaks 180 = .ok (.aload_n 0, 1) := by decide +kernel
theorem dX10_findBreaks_181 : decode cX10_findBreaks 181 = .ok (.getfield 44, 3) := by decide +kernel
theorem dX10_findBreaks_184 : decode cX10_findBreaks 184 = .ok (.iload_n 2, 1) := by decide +kernel
theorem dX10_findBreaks_185 : decode cX10_findBreaks 185 = .ok (.iaload, 1) := by decide +kernel
theorem dX10_findBreaks_186 : decode cX10_findBreaks 186 = .ok (.iconst 1, 1) := by decide +kernel
theorem dX10_findBreaks_187 : decode cX10_findBreaks 187 = .ok (.iload_n 3, 1) := by decide +kernel
theorem dX10_findBreaks_188 : decode cX10_findBreaks 188 = .ok (.ishl, 1) := by decide +kernel
theorem dX10_findBreaks_189 : decode cX10_findBreaks 189 = .ok (.ior, 1) := by decide +kernel
theorem dX10_findBreaks_190 : decode cX10_findBreaks 190 = .ok (.iastore, 1) := by decide +kernel
theorem dX10_findBreaks_191 : decode cX10_findBreaks 191 = .ok (.aload_n 0, 1) := by decide +kernel
theorem dX10_findBreaks_192 : decode cX10_findBreaks 192 = .ok (.getfield 47, 3) := by decide +kernel
theorem dX10_findBreaks_195 : decode cX10_findBreaks 195 = .ok (.iload_n 2, 1) := by decide +kernel
theorem dX10_findBreaks_196 : decode cX10_findBreaks 196 = .ok (.iconst 1, 1) := by decide +kernel
theorem dX10_findBreaks_197 : decode cX10_findBreaks 197 = .ok (.iadd, 1) := by decide +kernel
theorem dX10_findBreaks_198 : decode cX10_findBreaks 198 = .ok (.aload_n 0, 1) := by decide +kernel
theorem dX10_findBreaks_199 : decode cX10_findBreaks 199 = .ok (.getfield 47, 3) := by decide +kernel
theorem dX10_findBreaks_202 : decode cX10_findBreaks 202 = .ok (.iload_n 2, 1) := by decide +kernel
theorem dX10_findBreaks_203 : decode cX10_findBreaks 203 = .ok (.iaload, 1) := by decide +kernel
theorem dX10_findBreaks_204 : decode cX10_findBreaks 204 = .ok (.iastore, 1) := by decide +kernel
theorem dX10_findBreaks_205 : decode cX10_findBreaks 205 = .ok (.aload_n 0, 1) := by decide +kernel
theorem dX10_findBreaks_206 : decode cX10_findBreaks 206 = .ok (.getfield 50, 3) := by decide +kernel
theorem dX10_findBreaks_209 : decode cX10_findBreaks 209 = .ok (.iload_n 2, 1) := by decide +kernel
theorem dX10_findBreaks_210 : decode cX10_findBreaks 210 = .ok (.iconst 1, 1) := by decide +kernel
theorem dX10_findBreaks_211 : decode cX10_findBreaks 211 = .ok (.iadd, 1) := by decide +kernel
theorem dX10_findBreaks_212 : decode cX10_findBreaks 212 = .ok (.iload 5, 2) := by decide +kernel
theorem dX10_findBreaks_214 : decode cX10_findBreaks 214 = .ok (.iastore, 1) := by decide +kernel
theorem dX10_findBreaks_215 : decode cX10_findBreaks 215 = .ok (.aload_n 0, 1) := by decide +kernel
theorem dX10_findBreaks_216 : decode cX10_findBreaks 216 = .ok (.getfield 47, 3) := by decide +kernel
theorem dX10_findBreaks_219 : decode cX10_findBreaks 219 = .ok (.iload_n 2, 1) := by decide +kernel
theorem dX10_findBreaks_220 : decode cX10_findBreaks 220 = .ok (.dup2, 1) := by decide +kernel
theorem dX10_findBreaks_221 : decode cX10_findBreaks 221 = .ok (.iaload, 1) := by decide +kernel
theorem dX10_findBreaks_222 : decode cX10_findBreaks 222 = .ok (.iconst 1, 1) := by decide +kernel
theorem dX10_findBreaks_223 : decode cX10_findBreaks 223 = .ok (.iload_n 3, 1) := by decide +kernel
theorem dX10_findBreaks_224 : decode cX10_findBreaks 224 = .ok (.ishl, 1) := by decide +kernel
theorem dX10_findBreaks_225 : decode cX10_findBreaks 225 = .ok (.ior, 1) := by decide +kernel
theorem dX10_findBreaks_226 : decode cX10_findBreaks 226 = .ok (.iastore, 1) := by decide +kernel
theorem dX10_findBreaks_227 : decode cX10_findBreaks 227 = .ok (.iinc 2 1, 3) := by decide +kernel
theorem dX10_findBreaks_230 : decode cX10_findBreaks 230 = .ok (.aload_n 0, 1) := by decide +kernel
theorem dX10_findBreaks_231 : decode cX10_findBreaks 231 = .ok (.iload_n 2, 1) := by decide +kernel
theorem dX10_findBreaks_232 : decode cX10_findBreaks 232 = .ok (.invokevirtual 246, 3) := by decide +kernel
theorem dX10_findBreaks_235 : decode cX10_findBreaks 235 = .ok (.goto 20, 3) := by decide +kernel
theorem dX10_findBreaks_238 : decode cX10_findBreaks 238 = .ok (.iload 4, 2) := by decide +kernel
theorem dX10_findBreaks_240 : decode cX10_findBreaks 240 = .ok (.ifCond .eq 15, 3) := by decide +kernel
theorem dX10_findBreaks_243 : decode cX10_findBreaks 243 = .ok (.aload_n 0, 1) := by decide +kernel
theorem dX10_findBreaks_244 : decode cX10_findBreaks 244 = .ok (.getfield 47, 3) := by decide +kernel
theorem dX10_findBreaks_247 : decode cX10_findBreaks 247 = .ok (.iload_n 2, 1) := by decide +kernel
theorem dX10_findBreaks_248 : decode cX10_findBreaks 248 = .ok (.dup2, 1) := by decide +kernel
theorem dX10_findBreaks_249 : decode cX10_findBreaks 249 = .ok (.iaload, 1) := by decide +kernel
theorem dX10_findBreaks_250 : decode cX10_findBreaks 250 = .ok (.iconst 1, 1) := by decide +kernel
theorem dX10_findBreaks_251 : decode cX10_findBreaks 251 = .ok (.iload_n 3, 1) := by decide +kernel
theorem dX10_findBreaks_252 : decode cX10_findBreaks 252 = .ok (.ishl, 1) := by decide +kernel
theorem dX10_findBreaks_253 : decode cX10_findBreaks 253 = .ok (.ior, 1) := by decide +kernel
theorem dX10_findBreaks_254 : decode cX10_findBreaks 254 = .ok (.iastore, 1) := by decide +kernel
theorem dX10_findBreaks_255 : decode cX10_findBreaks 255 = .ok (.goto (-211), 3) := by decide +kernel
theorem dX10_findBreaks_258 : decode cX10_findBreaks 258 = .ok (.return_, 1) := by decide +kernel
theorem dX10_fewest_0 : decode cX10_fewest 0 = .ok (.iload_n 1, 1) := by decide +kernel
theorem dX10_fewest_1 : decode cX10_fewest 1 = .ok (.i2l, 1) := by decide +kernel
theorem dX10_fewest_2 : decode cX10_fewest 2 = .ok (.lconst 0, 1) := by decide +kernel
theorem dX10_fewest_3 : decode cX10_fewest 3 = .ok (.ldc2_w 249, 3) := by decide +kernel
theorem dX10_fewest_6 : decode cX10_fewest 6 = .ok (.invokestatic 134, 3) := by decide +kernel
theorem dX10_fewest_9 : decode cX10_fewest 9 = .ok (.ifCond .ne 5, 3) := by decide +kernel
theorem dX10_fewest_12 : decode cX10_fewest 12 = .ok (.iconst (-1), 1) := by decide +kernel
theorem dX10_fewest_13 : decode cX10_fewest 13 = .ok (.ireturn, 1) := by decide +kernel
theorem dX10_fewest_14 : decode cX10_fewest 14 = .ok (.aload_n 0, 1) := by decide +kernel
theorem dX10_fewest_15 : decode cX10_fewest 15 = .ok (.iconst 0, 1) := by decide +kernel
theorem dX10_fewest_16 : decode cX10_fewest 16 = .ok (.invokevirtual 251, 3) := by decide +kernel
theorem dX10_fewest_19 : decode cX10_fewest 19 = .ok (.iload_n 1, 1) := by decide +kernel
theorem dX10_fewest_20 : decode cX10_fewest 20 = .ok (.ifCond .ne 10, 3) := by decide +kernel
theorem dX10_fewest_23 : decode cX10_fewest 23 = .ok (.aload_n 0, 1) := by decide +kernel
theorem dX10_fewest_24 : decode cX10_fewest 24 = .ok (.getfield 229, 3) := by decide +kernel
theorem dX10_fewest_27 : decode cX10_fewest 27 = .ok (.goto 19, 3) := by decide +kernel
theorem dX10_fewest_30 : decode cX10_fewest 30 = .ok (.iload_n 1, 1) := by decide +kernel
theorem dX10_fewest_31 : decode cX10_fewest 31 = .ok (.iconst 1, 1) := by decide +kernel
theorem dX10_fewest_32 : decode cX10_fewest 32 = .ok (.if_icmp .ne 10, 3) := by decide +kernel
theorem dX10_fewest_35 : decode cX10_fewest 35 = .ok (.aload_n 0, 1) := by decide +kernel
theorem dX10_fewest_36 : decode cX10_fewest 36 = .ok (.getfield 235, 3) := by decide +kernel
theorem dX10_fewest_39 : decode cX10_fewest 39 = .ok (.goto 7, 3) := by decide +kernel
theorem dX10_fewest_42 : decode cX10_fewest 42 = .ok (.aload_n 0, 1) := by decide +kernel
theorem dX10_fewest_43 : decode cX10_fewest 43 = .ok (.getfield 232, 3) := by decide +kernel
theorem dX10_fewest_46 : decode cX10_fewest 46 = .ok (.ireturn, 1) := by decide +kernel
theorem dX10_cheapest_0 : decode cX10_cheapest 0 = .ok (.iload_n 1, 1) := by decide +kernel
theorem dX10_cheapest_1 : decode cX10_cheapest 1 = .ok (.i2l, 1) := by decide +kernel
theorem dX10_cheapest_2 : decode cX10_cheapest 2 = .ok (.lconst 0, 1) := by decide +kernel
theorem dX10_cheapest_3 : decode cX10_cheapest 3 = .ok (.lconst 1, 1) := by decide +kernel
theorem dX10_cheapest_4 : decode cX10_cheapest 4 = .ok (.invokestatic 134, 3) := by decide +kernel
theorem dX10_cheapest_7 : decode cX10_cheapest 7 = .ok (.ifCond .ne 5, 3) := by decide +kernel
theorem dX10_cheapest_10 : decode cX10_cheapest 10 = .ok (.iconst (-1), 1) := by decide +kernel
theorem dX10_cheapest_11 : decode cX10_cheapest 11 = .ok (.ireturn, 1) := by decide +kernel
theorem dX10_cheapest_12 : decode cX10_cheapest 12 = .ok (.aload_n 0, 1) := by decide +kernel
theorem dX10_cheapest_13 : decode cX10_cheapest 13 = .ok (.iconst 1, 1) := by decide +kernel
theorem dX10_cheapest_14 : decode cX10_cheapest 14 = .ok (.invokevirtual 251, 3) := by decide +kernel
theorem dX10_cheapest_17 : decode cX10_cheapest 17 = .ok (.iload_n 1, 1) := by decide +kernel
theorem dX10_cheapest_18 : decode cX10_cheapest 18 = .ok (.ifCond .ne 10, 3) := by decide +kernel
theorem dX10_cheapest_21 : decode cX10_cheapest 21 = .ok (.aload_n 0, 1) := by decide +kernel
theorem dX10_cheapest_22 : decode cX10_cheapest 22 = .ok (.getfield 229, 3) := by decide +kernel
theorem dX10_cheapest_25 : decode cX10_cheapest 25 = .ok (.goto 7, 3) := by decide +kernel
theorem dX10_cheapest_28 : decode cX10_cheapest 28 = .ok (.aload_n 0, 1) := by decide +kernel
theorem dX10_cheapest_29 : decode cX10_cheapest 29 = .ok (.getfield 235, 3) := by decide +kernel
theorem dX10_cheapest_32 : decode cX10_cheapest 32 = .ok (.ireturn, 1) := by decide +kernel
theorem dX10_without_0 : decode cX10_without 0 = .ok (.iload_n 1, 1) := by decide +kernel
theorem dX10_without_1 : decode cX10_without 1 = .ok (.ifCond .lt 16, 3) := by decide +kernel
theorem dX10_without_4 : decode cX10_without 4 = .ok (.iload_n 1, 1) := by decide +kernel
theorem dX10_without_5 : decode cX10_without 5 = .ok (.aload_n 0, 1) := by decide +kernel
theorem dX10_without_6 : decode cX10_without 6 = .ok (.getfield 7, 3) := by decide +kernel
theorem dX10_without_9 : decode cX10_without 9 = .ok (.iconst 0, 1) := by decide +kernel
theorem dX10_without_10 : decode cX10_without 10 = .ok (.iaload, 1) := by decide +kernel
theorem dX10_without_11 : decode cX10_without 11 = .ok (.iconst (-1), 1) := by decide +kernel
theorem dX10_without_12 : decode cX10_without 12 = .ok (.ixor, 1) := by decide +kernel
theorem dX10_without_13 : decode cX10_without 13 = .ok (.iand, 1) := by decide +kernel
theorem dX10_without_14 : decode cX10_without 14 = .ok (.ifCond .eq 7, 3) := by decide +kernel
theorem dX10_without_17 : decode cX10_without 17 = .ok (.iconst (-1), 1) := by decide +kernel
theorem dX10_without_18 : decode cX10_without 18 = .ok (.goto 17, 3) := by decide +kernel
theorem dX10_without_21 : decode cX10_without 21 = .ok (.aload_n 0, 1) := by decide +kernel
theorem dX10_without_22 : decode cX10_without 22 = .ok (.aload_n 0, 1) := by decide +kernel
theorem dX10_without_23 : decode cX10_without 23 = .ok (.getfield 7, 3) := by decide +kernel
theorem dX10_without_26 : decode cX10_without 26 = .ok (.iconst 0, 1) := by decide +kernel
theorem dX10_without_27 : decode cX10_without 27 = .ok (.iaload, 1) := by decide +kernel
theorem dX10_without_28 : decode cX10_without 28 = .ok (.iload_n 1, 1) := by decide +kernel
theorem dX10_without_29 : decode cX10_without 29 = .ok (.iconst (-1), 1) := by decide +kernel
